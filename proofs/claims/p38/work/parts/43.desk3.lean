set_option maxHeartbeats 4000000 in
set_option maxRecDepth 100000 in
/-- letters -/
theorem c_X2_letters (l : Launch) (g : gT) (AD : Nat → Nat) (LL : Nat → ltT) (EE : Nat → evT) (LN : Nat → Nat) (lc ec : Nat) (hlc : lc ≤ 12) (hec : ec ≤ 24) (hLL : ∀ i, i < 12 → (LL i).2.2 ≤ 40) (hEE : ∀ q, q < ec → (EE q).1 = nI (LN q) ∧ LN q < lc ∧ (EE q).2.2.1 ≤ 40 ∧ (EE q).2.2.2.1 ≤ 8) : pM g l yX2_letters wsX2_letters { frames := 0, cells := 0, slots := 0, locals := 0 } [.ref (AD 0)] (fun H => va_P (gD g) vwCl (wsD g AD LL EE lc ec) H) (.int (nI lc)) := by
  refine pu_ofI (cc := cX2_letters) (maxL := 1) (by decide) rfl (Nat.le_of_ble_eq_true rfl) ?_
  intro p e s m args below meth c H ls Q hx hb hml hts hown hK hP hl hret
  have hl : lv_has ls 1 [(0, .ref (AD 0))] := hl
  have S : CallFix p m c cX2_letters 1 s args wsX2_letters RX2 := ⟨hx, hb, hml, hown, hts⟩
  have iX2 : ∀ w ∈ u_ws RX2 TX2 4, w ∈ wsX2_letters := by decide +kernel
  have f26 := hts (.fieldLink RX2 26 "LetterSeals" "letterCount" "I") (by decide +kernel)
  refine lv_aload_n hx hb dX2_letters_0 rfl (lv_at hl 0 rfl) ?_
  refine va_get (D := gD g) (ci := 2) (v := .int (nI (lc))) (C := RX2) (T := TX2) (N := 4) hx hb hts iX2 hown hK.1 hP 0 dk_me rfl 2 (by decide) f26 (fun _ h9 => h9) rfl dX2_letters_1 ?_
  exact hret _ _ dX2_letters_4

set_option maxHeartbeats 4000000 in
set_option maxRecDepth 100000 in
/-- envelopes -/
theorem c_X2_envelopes (l : Launch) (g : gT) (AD : Nat → Nat) (LL : Nat → ltT) (EE : Nat → evT) (LN : Nat → Nat) (lc ec : Nat) (hlc : lc ≤ 12) (hec : ec ≤ 24) (hLL : ∀ i, i < 12 → (LL i).2.2 ≤ 40) (hEE : ∀ q, q < ec → (EE q).1 = nI (LN q) ∧ LN q < lc ∧ (EE q).2.2.1 ≤ 40 ∧ (EE q).2.2.2.1 ≤ 8) : pM g l yX2_envelopes wsX2_envelopes { frames := 0, cells := 0, slots := 0, locals := 0 } [.ref (AD 0)] (fun H => va_P (gD g) vwCl (wsD g AD LL EE lc ec) H) (.int (nI ec)) := by
  refine pu_ofI (cc := cX2_envelopes) (maxL := 1) (by decide) rfl (Nat.le_of_ble_eq_true rfl) ?_
  intro p e s m args below meth c H ls Q hx hb hml hts hown hK hP hl hret
  have hl : lv_has ls 1 [(0, .ref (AD 0))] := hl
  have S : CallFix p m c cX2_envelopes 1 s args wsX2_envelopes RX2 := ⟨hx, hb, hml, hown, hts⟩
  have iX2 : ∀ w ∈ u_ws RX2 TX2 4, w ∈ wsX2_envelopes := by decide +kernel
  have f84 := hts (.fieldLink RX2 84 "LetterSeals" "envelopeCount" "I") (by decide +kernel)
  refine lv_aload_n hx hb dX2_envelopes_0 rfl (lv_at hl 0 rfl) ?_
  refine va_get (D := gD g) (ci := 2) (v := .int (nI (ec))) (C := RX2) (T := TX2) (N := 4) hx hb hts iX2 hown hK.1 hP 0 dk_me rfl 3 (by decide) f84 (fun _ h9 => h9) rfl dX2_envelopes_1 ?_
  exact hret _ _ dX2_envelopes_4

set_option maxHeartbeats 4000000 in
set_option maxRecDepth 100000 in
/-- signsOf -/
theorem c_X2_signsOf (l : Launch) (g : gT) (AD : Nat → Nat) (LL : Nat → ltT) (EE : Nat → evT) (LN : Nat → Nat) (lc ec : Nat) (hlc : lc ≤ 12) (hec : ec ≤ 24) (hLL : ∀ i, i < 12 → (LL i).2.2 ≤ 40) (hEE : ∀ q, q < ec → (EE q).1 = nI (LN q) ∧ LN q < lc ∧ (EE q).2.2.1 ≤ 40 ∧ (EE q).2.2.2.1 ≤ 8) (k : Nat) (hk : k < lc) : pM g l yX2_signsOf wsX2_signsOf { frames := 7, cells := 0, slots := 0, locals := 103 } [.ref (AD 0), .int (nI k)] (fun H => va_P (gD g) vwCl (wsD g AD LL EE lc ec) H) (.int (nI ((LL k).2.2))) := by
  refine pu_ofI (cc := cX2_signsOf) (maxL := 2) (by decide) rfl (Nat.le_of_ble_eq_true rfl) ?_
  intro p e s m args below meth c H ls Q hx hb hml hts hown hK hP hl hret
  have hl : lv_has ls 2 [(0, .ref (AD 0)), (1, .int (nI k))] := hl
  have S : CallFix p m c cX2_signsOf 2 s args wsX2_signsOf RX2 := ⟨hx, hb, hml, hown, hts⟩
  have iX1 : ∀ w ∈ u_ws RX1 TX1 3, w ∈ wsX2_signsOf := by decide +kernel
  have n42 : (Cond.fieldLinkNest RX2 42 "LetterSeals$Letter" "count" "I" "LetterSeals").before args s = true := va_Nw.use rfl (hK.2.1 ("LetterSeals", 42, "LetterSeals$Letter", "count", "I") (List.mem_of_getElem? (i := 3) rfl))
  refine lv_aload_n hx hb dX2_signsOf_0 rfl (lv_at hl 0 rfl) ?_
  refine lv_iload_n hx hb dX2_signsOf_1 rfl (lv_at hl 1 rfl) ?_
  refine p_V (As := [.int (nI k)]) (rest := []) S (c_X2_requireLetter l g AD LL EE LN lc ec hlc hec hLL hEE k hk) (cwV 1 hts gX2_signsOf_X2_requireLetter rfl rfl rfl (by decide +kernel) ⟨Nat.le_of_ble_eq_true rfl, Nat.le_of_ble_eq_true rfl⟩) hK (va_recv hK.1 hP (ci := 2) (q0 := 0) rfl dk_me) (hP) rfl hl.1 rfl (Nat.le_of_ble_eq_true rfl) dX2_signsOf_2 ⟨Nat.le_of_ble_eq_true rfl, Nat.le_of_ble_eq_true rfl⟩ ?_
  have hL1 := dk_letter hP (i := k) (by omega)
  refine va_getN (D := gD g) (ci := 1) (v := .int (nI ((LL k).2.2))) (C := RX1) (T := TX1) (N := 3) hx hb hts iX1 hown hK.1 hL1 0 rfl rfl 2 (by decide) n42 (fun _ h9 => h9) rfl dX2_signsOf_5 ?_
  exact hret _ _ dX2_signsOf_8

set_option maxHeartbeats 4000000 in
set_option maxRecDepth 100000 in
/-- signsOf_x -/
theorem c_X2_signsOf_x (l : Launch) (hlt : l.stackTraces = false) (g : gT) (AD : Nat → Nat) (LL : Nat → ltT) (EE : Nat → evT) (LN : Nat → Nat) (lc ec : Nat) (hlc : lc ≤ 12) (hec : ec ≤ 24) (hLL : ∀ i, i < 12 → (LL i).2.2 ≤ 40) (hEE : ∀ q, q < ec → (EE q).1 = nI (LN q) ∧ LN q < lc ∧ (EE q).2.2.1 ≤ 40 ∧ (EE q).2.2.2.1 ≤ 8) (x : Int32) (hxb : inB x lc = false) : xM g l yX2_signsOf wsX2_signsOf { frames := 7, cells := 1, slots := 6, locals := 103 } [.ref (AD 0), .int (x)] (fun H => va_P (gD g) vwCl (wsD g AD LL EE lc ec) H) "java/lang/IndexOutOfBoundsException" := by
  refine xr_of (cc := cX2_signsOf) (maxL := 2) (ret := (some .int)) (by decide) rfl (Nat.le_of_ble_eq_true rfl) ?_
  intro p e s m args below meth c ls hx hb hml hts hown hK hP hZ hlocks ht hl
  have hl : lv_has ls 2 [(0, .ref (AD 0)), (1, .int (x))] := hl
  have S : CallFix p m c cX2_signsOf 2 s args wsX2_signsOf RX2 := ⟨hx, hb, hml, hown, hts⟩
  refine lv_aload_n hx hb dX2_signsOf_0 rfl (lv_at hl 0 rfl) ?_
  refine lv_iload_n hx hb dX2_signsOf_1 rfl (lv_at hl 1 rfl) ?_
  exact x_V (As := [.int (x)]) (rest := []) S (c_X2_requireLetter_x l hlt g AD LL EE LN lc ec hlc hec hLL hEE x hxb) (cwV 1 hts gX2_signsOf_X2_requireLetter rfl rfl rfl (by decide +kernel) ⟨Nat.le_of_ble_eq_true rfl, Nat.le_of_ble_eq_true rfl⟩) hK hZ (va_recv hK.1 hP (ci := 2) (q0 := 0) rfl dk_me) (hP) rfl hl.1 rfl (Nat.le_of_ble_eq_true rfl) dX2_signsOf_2 ⟨Nat.le_of_ble_eq_true rfl, Nat.le_of_ble_eq_true rfl⟩ ht hlocks

set_option maxHeartbeats 4000000 in
set_option maxRecDepth 100000 in
/-- commasOf -/
theorem c_X2_commasOf (l : Launch) (g : gT) (AD : Nat → Nat) (LL : Nat → ltT) (EE : Nat → evT) (LN : Nat → Nat) (lc ec : Nat) (hlc : lc ≤ 12) (hec : ec ≤ 24) (hLL : ∀ i, i < 12 → (LL i).2.2 ≤ 40) (hEE : ∀ q, q < ec → (EE q).1 = nI (LN q) ∧ LN q < lc ∧ (EE q).2.2.1 ≤ 40 ∧ (EE q).2.2.2.1 ≤ 8) (k : Nat) (hk : k < lc) : pM g l yX2_commasOf wsX2_commasOf { frames := 7, cells := 0, slots := 0, locals := 103 } [.ref (AD 0), .int (nI k)] (fun H => va_P (gD g) vwCl (wsD g AD LL EE lc ec) H) (.int (cntF ((LL k).1) 27 ((LL k).2.2))) := by
  refine pu_ofI (cc := cX2_commasOf) (maxL := 2) (by decide) rfl (Nat.le_of_ble_eq_true rfl) ?_
  intro p e s m args below meth c H ls Q hx hb hml hts hown hK hP hl hret
  have hl : lv_has ls 2 [(0, .ref (AD 0)), (1, .int (nI k))] := hl
  have S : CallFix p m c cX2_commasOf 2 s args wsX2_commasOf RX2 := ⟨hx, hb, hml, hown, hts⟩
  refine lv_aload_n hx hb dX2_commasOf_0 rfl (lv_at hl 0 rfl) ?_
  refine lv_iload_n hx hb dX2_commasOf_1 rfl (lv_at hl 1 rfl) ?_
  refine p_V (As := [.int (nI k)]) (rest := []) S (c_X2_requireLetter l g AD LL EE LN lc ec hlc hec hLL hEE k hk) (cwV 1 hts gX2_commasOf_X2_requireLetter rfl rfl rfl (by decide +kernel) ⟨Nat.le_of_ble_eq_true rfl, Nat.le_of_ble_eq_true rfl⟩) hK (va_recv hK.1 hP (ci := 2) (q0 := 0) rfl dk_me) (hP) rfl hl.1 rfl (Nat.le_of_ble_eq_true rfl) dX2_commasOf_2 ⟨Nat.le_of_ble_eq_true rfl, Nat.le_of_ble_eq_true rfl⟩ ?_
  refine lv_bipush (v := 27) hx hb dX2_commasOf_5 (by decide +kernel) ?_
  have hL1 := dk_letter hP (i := k) (by omega)
  refine p_V (As := [.int (27)]) (rest := []) S (c_X1_countOf l g (AD (3 + 3 * k)) (AD (4 + 3 * k)) (AD (5 + 3 * k)) ((LL k).1) ((LL k).2.1) ((LL k).2.2) (hLL _ (by omega)) (27)) (cwV 1 hts gX2_commasOf_X1_countOf rfl rfl rfl (by decide +kernel) ⟨Nat.le_of_ble_eq_true rfl, Nat.le_of_ble_eq_true rfl⟩) hK (va_recv hK.1 hL1 (ci := 1) (q0 := 0) rfl rfl) (hL1) rfl hl.1 rfl (Nat.le_of_ble_eq_true rfl) dX2_commasOf_7 ⟨Nat.le_of_ble_eq_true rfl, Nat.le_of_ble_eq_true rfl⟩ ?_
  exact hret _ _ dX2_commasOf_10

set_option maxHeartbeats 4000000 in
set_option maxRecDepth 100000 in
/-- commasOf_x -/
theorem c_X2_commasOf_x (l : Launch) (hlt : l.stackTraces = false) (g : gT) (AD : Nat → Nat) (LL : Nat → ltT) (EE : Nat → evT) (LN : Nat → Nat) (lc ec : Nat) (hlc : lc ≤ 12) (hec : ec ≤ 24) (hLL : ∀ i, i < 12 → (LL i).2.2 ≤ 40) (hEE : ∀ q, q < ec → (EE q).1 = nI (LN q) ∧ LN q < lc ∧ (EE q).2.2.1 ≤ 40 ∧ (EE q).2.2.2.1 ≤ 8) (x : Int32) (hxb : inB x lc = false) : xM g l yX2_commasOf wsX2_commasOf { frames := 7, cells := 1, slots := 6, locals := 103 } [.ref (AD 0), .int (x)] (fun H => va_P (gD g) vwCl (wsD g AD LL EE lc ec) H) "java/lang/IndexOutOfBoundsException" := by
  refine xr_of (cc := cX2_commasOf) (maxL := 2) (ret := (some .int)) (by decide) rfl (Nat.le_of_ble_eq_true rfl) ?_
  intro p e s m args below meth c ls hx hb hml hts hown hK hP hZ hlocks ht hl
  have hl : lv_has ls 2 [(0, .ref (AD 0)), (1, .int (x))] := hl
  have S : CallFix p m c cX2_commasOf 2 s args wsX2_commasOf RX2 := ⟨hx, hb, hml, hown, hts⟩
  refine lv_aload_n hx hb dX2_commasOf_0 rfl (lv_at hl 0 rfl) ?_
  refine lv_iload_n hx hb dX2_commasOf_1 rfl (lv_at hl 1 rfl) ?_
  exact x_V (As := [.int (x)]) (rest := []) S (c_X2_requireLetter_x l hlt g AD LL EE LN lc ec hlc hec hLL hEE x hxb) (cwV 1 hts gX2_commasOf_X2_requireLetter rfl rfl rfl (by decide +kernel) ⟨Nat.le_of_ble_eq_true rfl, Nat.le_of_ble_eq_true rfl⟩) hK hZ (va_recv hK.1 hP (ci := 2) (q0 := 0) rfl dk_me) (hP) rfl hl.1 rfl (Nat.le_of_ble_eq_true rfl) dX2_commasOf_2 ⟨Nat.le_of_ble_eq_true rfl, Nat.le_of_ble_eq_true rfl⟩ ht hlocks

set_option maxHeartbeats 4000000 in
set_option maxRecDepth 100000 in
/-- tearsOf -/
theorem c_X2_tearsOf (l : Launch) (g : gT) (AD : Nat → Nat) (LL : Nat → ltT) (EE : Nat → evT) (LN : Nat → Nat) (lc ec : Nat) (hlc : lc ≤ 12) (hec : ec ≤ 24) (hLL : ∀ i, i < 12 → (LL i).2.2 ≤ 40) (hEE : ∀ q, q < ec → (EE q).1 = nI (LN q) ∧ LN q < lc ∧ (EE q).2.2.1 ≤ 40 ∧ (EE q).2.2.2.1 ≤ 8) (k : Nat) (hk : k < lc) : pM g l yX2_tearsOf wsX2_tearsOf { frames := 7, cells := 0, slots := 0, locals := 103 } [.ref (AD 0), .int (nI k)] (fun H => va_P (gD g) vwCl (wsD g AD LL EE lc ec) H) (.int (cntF ((LL k).1) 30 ((LL k).2.2))) := by
  refine pu_ofI (cc := cX2_tearsOf) (maxL := 2) (by decide) rfl (Nat.le_of_ble_eq_true rfl) ?_
  intro p e s m args below meth c H ls Q hx hb hml hts hown hK hP hl hret
  have hl : lv_has ls 2 [(0, .ref (AD 0)), (1, .int (nI k))] := hl
  have S : CallFix p m c cX2_tearsOf 2 s args wsX2_tearsOf RX2 := ⟨hx, hb, hml, hown, hts⟩
  refine lv_aload_n hx hb dX2_tearsOf_0 rfl (lv_at hl 0 rfl) ?_
  refine lv_iload_n hx hb dX2_tearsOf_1 rfl (lv_at hl 1 rfl) ?_
  refine p_V (As := [.int (nI k)]) (rest := []) S (c_X2_requireLetter l g AD LL EE LN lc ec hlc hec hLL hEE k hk) (cwV 1 hts gX2_tearsOf_X2_requireLetter rfl rfl rfl (by decide +kernel) ⟨Nat.le_of_ble_eq_true rfl, Nat.le_of_ble_eq_true rfl⟩) hK (va_recv hK.1 hP (ci := 2) (q0 := 0) rfl dk_me) (hP) rfl hl.1 rfl (Nat.le_of_ble_eq_true rfl) dX2_tearsOf_2 ⟨Nat.le_of_ble_eq_true rfl, Nat.le_of_ble_eq_true rfl⟩ ?_
  refine lv_bipush (v := 30) hx hb dX2_tearsOf_5 (by decide +kernel) ?_
  have hL1 := dk_letter hP (i := k) (by omega)
  refine p_V (As := [.int (30)]) (rest := []) S (c_X1_countOf l g (AD (3 + 3 * k)) (AD (4 + 3 * k)) (AD (5 + 3 * k)) ((LL k).1) ((LL k).2.1) ((LL k).2.2) (hLL _ (by omega)) (30)) (cwV 1 hts gX2_tearsOf_X1_countOf rfl rfl rfl (by decide +kernel) ⟨Nat.le_of_ble_eq_true rfl, Nat.le_of_ble_eq_true rfl⟩) hK (va_recv hK.1 hL1 (ci := 1) (q0 := 0) rfl rfl) (hL1) rfl hl.1 rfl (Nat.le_of_ble_eq_true rfl) dX2_tearsOf_7 ⟨Nat.le_of_ble_eq_true rfl, Nat.le_of_ble_eq_true rfl⟩ ?_
  exact hret _ _ dX2_tearsOf_10

set_option maxHeartbeats 4000000 in
set_option maxRecDepth 100000 in
/-- tearsOf_x -/
theorem c_X2_tearsOf_x (l : Launch) (hlt : l.stackTraces = false) (g : gT) (AD : Nat → Nat) (LL : Nat → ltT) (EE : Nat → evT) (LN : Nat → Nat) (lc ec : Nat) (hlc : lc ≤ 12) (hec : ec ≤ 24) (hLL : ∀ i, i < 12 → (LL i).2.2 ≤ 40) (hEE : ∀ q, q < ec → (EE q).1 = nI (LN q) ∧ LN q < lc ∧ (EE q).2.2.1 ≤ 40 ∧ (EE q).2.2.2.1 ≤ 8) (x : Int32) (hxb : inB x lc = false) : xM g l yX2_tearsOf wsX2_tearsOf { frames := 7, cells := 1, slots := 6, locals := 103 } [.ref (AD 0), .int (x)] (fun H => va_P (gD g) vwCl (wsD g AD LL EE lc ec) H) "java/lang/IndexOutOfBoundsException" := by
  refine xr_of (cc := cX2_tearsOf) (maxL := 2) (ret := (some .int)) (by decide) rfl (Nat.le_of_ble_eq_true rfl) ?_
  intro p e s m args below meth c ls hx hb hml hts hown hK hP hZ hlocks ht hl
  have hl : lv_has ls 2 [(0, .ref (AD 0)), (1, .int (x))] := hl
  have S : CallFix p m c cX2_tearsOf 2 s args wsX2_tearsOf RX2 := ⟨hx, hb, hml, hown, hts⟩
  refine lv_aload_n hx hb dX2_tearsOf_0 rfl (lv_at hl 0 rfl) ?_
  refine lv_iload_n hx hb dX2_tearsOf_1 rfl (lv_at hl 1 rfl) ?_
  exact x_V (As := [.int (x)]) (rest := []) S (c_X2_requireLetter_x l hlt g AD LL EE LN lc ec hlc hec hLL hEE x hxb) (cwV 1 hts gX2_tearsOf_X2_requireLetter rfl rfl rfl (by decide +kernel) ⟨Nat.le_of_ble_eq_true rfl, Nat.le_of_ble_eq_true rfl⟩) hK hZ (va_recv hK.1 hP (ci := 2) (q0 := 0) rfl dk_me) (hP) rfl hl.1 rfl (Nat.le_of_ble_eq_true rfl) dX2_tearsOf_2 ⟨Nat.le_of_ble_eq_true rfl, Nat.le_of_ble_eq_true rfl⟩ ht hlocks

set_option maxHeartbeats 4000000 in
set_option maxRecDepth 100000 in
/-- digestOf -/
theorem c_X2_digestOf (l : Launch) (g : gT) (AD : Nat → Nat) (LL : Nat → ltT) (EE : Nat → evT) (LN : Nat → Nat) (lc ec : Nat) (hlc : lc ≤ 12) (hec : ec ≤ 24) (hLL : ∀ i, i < 12 → (LL i).2.2 ≤ 40) (hEE : ∀ q, q < ec → (EE q).1 = nI (LN q) ∧ LN q < lc ∧ (EE q).2.2.1 ≤ 40 ∧ (EE q).2.2.2.1 ≤ 8) (k : Nat) (hk : k < lc) : pM g l yX2_digestOf wsX2_digestOf { frames := 7, cells := 0, slots := 0, locals := 103 } [.ref (AD 0), .int (nI k)] (fun H => va_P (gD g) vwCl (wsD g AD LL EE lc ec) H) (.int (dgF ((LL k).1) ((LL k).2.2))) := by
  refine pu_ofI (cc := cX2_digestOf) (maxL := 2) (by decide) rfl (Nat.le_of_ble_eq_true rfl) ?_
  intro p e s m args below meth c H ls Q hx hb hml hts hown hK hP hl hret
  have hl : lv_has ls 2 [(0, .ref (AD 0)), (1, .int (nI k))] := hl
  have S : CallFix p m c cX2_digestOf 2 s args wsX2_digestOf RX2 := ⟨hx, hb, hml, hown, hts⟩
  refine lv_aload_n hx hb dX2_digestOf_0 rfl (lv_at hl 0 rfl) ?_
  refine lv_iload_n hx hb dX2_digestOf_1 rfl (lv_at hl 1 rfl) ?_
  refine p_V (As := [.int (nI k)]) (rest := []) S (c_X2_requireLetter l g AD LL EE LN lc ec hlc hec hLL hEE k hk) (cwV 1 hts gX2_digestOf_X2_requireLetter rfl rfl rfl (by decide +kernel) ⟨Nat.le_of_ble_eq_true rfl, Nat.le_of_ble_eq_true rfl⟩) hK (va_recv hK.1 hP (ci := 2) (q0 := 0) rfl dk_me) (hP) rfl hl.1 rfl (Nat.le_of_ble_eq_true rfl) dX2_digestOf_2 ⟨Nat.le_of_ble_eq_true rfl, Nat.le_of_ble_eq_true rfl⟩ ?_
  have hL1 := dk_letter hP (i := k) (by omega)
  refine p_V (As := []) (rest := []) S (c_X1_signDigest l g (AD (3 + 3 * k)) (AD (4 + 3 * k)) (AD (5 + 3 * k)) ((LL k).1) ((LL k).2.1) ((LL k).2.2) (hLL _ (by omega))) (cwV 0 hts gX2_digestOf_X1_signDigest rfl rfl rfl (by decide +kernel) ⟨Nat.le_of_ble_eq_true rfl, Nat.le_of_ble_eq_true rfl⟩) hK (va_recv hK.1 hL1 (ci := 1) (q0 := 0) rfl rfl) (hL1) rfl hl.1 rfl (Nat.le_of_ble_eq_true rfl) dX2_digestOf_5 ⟨Nat.le_of_ble_eq_true rfl, Nat.le_of_ble_eq_true rfl⟩ ?_
  exact hret _ _ dX2_digestOf_8

set_option maxHeartbeats 4000000 in
set_option maxRecDepth 100000 in
/-- digestOf_x -/
theorem c_X2_digestOf_x (l : Launch) (hlt : l.stackTraces = false) (g : gT) (AD : Nat → Nat) (LL : Nat → ltT) (EE : Nat → evT) (LN : Nat → Nat) (lc ec : Nat) (hlc : lc ≤ 12) (hec : ec ≤ 24) (hLL : ∀ i, i < 12 → (LL i).2.2 ≤ 40) (hEE : ∀ q, q < ec → (EE q).1 = nI (LN q) ∧ LN q < lc ∧ (EE q).2.2.1 ≤ 40 ∧ (EE q).2.2.2.1 ≤ 8) (x : Int32) (hxb : inB x lc = false) : xM g l yX2_digestOf wsX2_digestOf { frames := 7, cells := 1, slots := 6, locals := 103 } [.ref (AD 0), .int (x)] (fun H => va_P (gD g) vwCl (wsD g AD LL EE lc ec) H) "java/lang/IndexOutOfBoundsException" := by
  refine xr_of (cc := cX2_digestOf) (maxL := 2) (ret := (some .int)) (by decide) rfl (Nat.le_of_ble_eq_true rfl) ?_
  intro p e s m args below meth c ls hx hb hml hts hown hK hP hZ hlocks ht hl
  have hl : lv_has ls 2 [(0, .ref (AD 0)), (1, .int (x))] := hl
  have S : CallFix p m c cX2_digestOf 2 s args wsX2_digestOf RX2 := ⟨hx, hb, hml, hown, hts⟩
  refine lv_aload_n hx hb dX2_digestOf_0 rfl (lv_at hl 0 rfl) ?_
  refine lv_iload_n hx hb dX2_digestOf_1 rfl (lv_at hl 1 rfl) ?_
  exact x_V (As := [.int (x)]) (rest := []) S (c_X2_requireLetter_x l hlt g AD LL EE LN lc ec hlc hec hLL hEE x hxb) (cwV 1 hts gX2_digestOf_X2_requireLetter rfl rfl rfl (by decide +kernel) ⟨Nat.le_of_ble_eq_true rfl, Nat.le_of_ble_eq_true rfl⟩) hK hZ (va_recv hK.1 hP (ci := 2) (q0 := 0) rfl dk_me) (hP) rfl hl.1 rfl (Nat.le_of_ble_eq_true rfl) dX2_digestOf_2 ⟨Nat.le_of_ble_eq_true rfl, Nat.le_of_ble_eq_true rfl⟩ ht hlocks

set_option maxHeartbeats 4000000 in
set_option maxRecDepth 100000 in
/-- unnoticed -/
theorem c_X2_unnoticed (l : Launch) (g : gT) (AD : Nat → Nat) (LL : Nat → ltT) (EE : Nat → evT) (LN : Nat → Nat) (lc ec : Nat) (hlc : lc ≤ 12) (hec : ec ≤ 24) (hLL : ∀ i, i < 12 → (LL i).2.2 ≤ 40) (hEE : ∀ q, q < ec → (EE q).1 = nI (LN q) ∧ LN q < lc ∧ (EE q).2.2.1 ≤ 40 ∧ (EE q).2.2.2.1 ≤ 8) (k : Nat) (hk : k < lc) : pM g l yX2_unnoticed wsX2_unnoticed { frames := 7, cells := 0, slots := 0, locals := 103 } [.ref (AD 0), .int (nI k)] (fun H => va_P (gD g) vwCl (wsD g AD LL EE lc ec) H) (.int (unF ((LL k).1) ((LL k).2.2))) := by
  refine pu_ofI (cc := cX2_unnoticed) (maxL := 2) (by decide) rfl (Nat.le_of_ble_eq_true rfl) ?_
  intro p e s m args below meth c H ls Q hx hb hml hts hown hK hP hl hret
  have hl : lv_has ls 2 [(0, .ref (AD 0)), (1, .int (nI k))] := hl
  have S : CallFix p m c cX2_unnoticed 2 s args wsX2_unnoticed RX2 := ⟨hx, hb, hml, hown, hts⟩
  refine lv_aload_n hx hb dX2_unnoticed_0 rfl (lv_at hl 0 rfl) ?_
  refine lv_iload_n hx hb dX2_unnoticed_1 rfl (lv_at hl 1 rfl) ?_
  refine p_V (As := [.int (nI k)]) (rest := []) S (c_X2_requireLetter l g AD LL EE LN lc ec hlc hec hLL hEE k hk) (cwV 1 hts gX2_unnoticed_X2_requireLetter rfl rfl rfl (by decide +kernel) ⟨Nat.le_of_ble_eq_true rfl, Nat.le_of_ble_eq_true rfl⟩) hK (va_recv hK.1 hP (ci := 2) (q0 := 0) rfl dk_me) (hP) rfl hl.1 rfl (Nat.le_of_ble_eq_true rfl) dX2_unnoticed_2 ⟨Nat.le_of_ble_eq_true rfl, Nat.le_of_ble_eq_true rfl⟩ ?_
  have hL1 := dk_letter hP (i := k) (by omega)
  refine p_V (As := []) (rest := []) S (c_X1_unnoticedPlaces l g (AD (3 + 3 * k)) (AD (4 + 3 * k)) (AD (5 + 3 * k)) ((LL k).1) ((LL k).2.1) ((LL k).2.2) (hLL _ (by omega))) (cwV 0 hts gX2_unnoticed_X1_unnoticedPlaces rfl rfl rfl (by decide +kernel) ⟨Nat.le_of_ble_eq_true rfl, Nat.le_of_ble_eq_true rfl⟩) hK (va_recv hK.1 hL1 (ci := 1) (q0 := 0) rfl rfl) (hL1) rfl hl.1 rfl (Nat.le_of_ble_eq_true rfl) dX2_unnoticed_5 ⟨Nat.le_of_ble_eq_true rfl, Nat.le_of_ble_eq_true rfl⟩ ?_
  exact hret _ _ dX2_unnoticed_8

set_option maxHeartbeats 4000000 in
set_option maxRecDepth 100000 in
/-- unnoticed_x -/
theorem c_X2_unnoticed_x (l : Launch) (hlt : l.stackTraces = false) (g : gT) (AD : Nat → Nat) (LL : Nat → ltT) (EE : Nat → evT) (LN : Nat → Nat) (lc ec : Nat) (hlc : lc ≤ 12) (hec : ec ≤ 24) (hLL : ∀ i, i < 12 → (LL i).2.2 ≤ 40) (hEE : ∀ q, q < ec → (EE q).1 = nI (LN q) ∧ LN q < lc ∧ (EE q).2.2.1 ≤ 40 ∧ (EE q).2.2.2.1 ≤ 8) (x : Int32) (hxb : inB x lc = false) : xM g l yX2_unnoticed wsX2_unnoticed { frames := 7, cells := 1, slots := 6, locals := 103 } [.ref (AD 0), .int (x)] (fun H => va_P (gD g) vwCl (wsD g AD LL EE lc ec) H) "java/lang/IndexOutOfBoundsException" := by
  refine xr_of (cc := cX2_unnoticed) (maxL := 2) (ret := (some .int)) (by decide) rfl (Nat.le_of_ble_eq_true rfl) ?_
  intro p e s m args below meth c ls hx hb hml hts hown hK hP hZ hlocks ht hl
  have hl : lv_has ls 2 [(0, .ref (AD 0)), (1, .int (x))] := hl
  have S : CallFix p m c cX2_unnoticed 2 s args wsX2_unnoticed RX2 := ⟨hx, hb, hml, hown, hts⟩
  refine lv_aload_n hx hb dX2_unnoticed_0 rfl (lv_at hl 0 rfl) ?_
  refine lv_iload_n hx hb dX2_unnoticed_1 rfl (lv_at hl 1 rfl) ?_
  exact x_V (As := [.int (x)]) (rest := []) S (c_X2_requireLetter_x l hlt g AD LL EE LN lc ec hlc hec hLL hEE x hxb) (cwV 1 hts gX2_unnoticed_X2_requireLetter rfl rfl rfl (by decide +kernel) ⟨Nat.le_of_ble_eq_true rfl, Nat.le_of_ble_eq_true rfl⟩) hK hZ (va_recv hK.1 hP (ci := 2) (q0 := 0) rfl dk_me) (hP) rfl hl.1 rfl (Nat.le_of_ble_eq_true rfl) dX2_unnoticed_2 ⟨Nat.le_of_ble_eq_true rfl, Nat.le_of_ble_eq_true rfl⟩ ht hlocks

set_option maxHeartbeats 4000000 in
set_option maxRecDepth 100000 in
/-- worstTear -/
theorem c_X2_worstTear (l : Launch) (g : gT) (AD : Nat → Nat) (LL : Nat → ltT) (EE : Nat → evT) (LN : Nat → Nat) (lc ec : Nat) (hlc : lc ≤ 12) (hec : ec ≤ 24) (hLL : ∀ i, i < 12 → (LL i).2.2 ≤ 40) (hEE : ∀ q, q < ec → (EE q).1 = nI (LN q) ∧ LN q < lc ∧ (EE q).2.2.1 ≤ 40 ∧ (EE q).2.2.2.1 ≤ 8) (k : Nat) (hk : k < lc) : pM g l yX2_worstTear wsX2_worstTear { frames := 7, cells := 0, slots := 0, locals := 103 } [.ref (AD 0), .int (nI k)] (fun H => va_P (gD g) vwCl (wsD g AD LL EE lc ec) H) (.int ((wkS ((LL k).1) ((LL k).2.2) (dgF ((LL k).1) ((LL k).2.2)) ((LL k).2.2)).1)) := by
  refine pu_ofI (cc := cX2_worstTear) (maxL := 2) (by decide) rfl (Nat.le_of_ble_eq_true rfl) ?_
  intro p e s m args below meth c H ls Q hx hb hml hts hown hK hP hl hret
  have hl : lv_has ls 2 [(0, .ref (AD 0)), (1, .int (nI k))] := hl
  have S : CallFix p m c cX2_worstTear 2 s args wsX2_worstTear RX2 := ⟨hx, hb, hml, hown, hts⟩
  refine lv_aload_n hx hb dX2_worstTear_0 rfl (lv_at hl 0 rfl) ?_
  refine lv_iload_n hx hb dX2_worstTear_1 rfl (lv_at hl 1 rfl) ?_
  refine p_V (As := [.int (nI k)]) (rest := []) S (c_X2_requireLetter l g AD LL EE LN lc ec hlc hec hLL hEE k hk) (cwV 1 hts gX2_worstTear_X2_requireLetter rfl rfl rfl (by decide +kernel) ⟨Nat.le_of_ble_eq_true rfl, Nat.le_of_ble_eq_true rfl⟩) hK (va_recv hK.1 hP (ci := 2) (q0 := 0) rfl dk_me) (hP) rfl hl.1 rfl (Nat.le_of_ble_eq_true rfl) dX2_worstTear_2 ⟨Nat.le_of_ble_eq_true rfl, Nat.le_of_ble_eq_true rfl⟩ ?_
  have hL1 := dk_letter hP (i := k) (by omega)
  refine p_V (As := []) (rest := []) S (c_X1_worstPlace l g (AD (3 + 3 * k)) (AD (4 + 3 * k)) (AD (5 + 3 * k)) ((LL k).1) ((LL k).2.1) ((LL k).2.2) (hLL _ (by omega))) (cwV 0 hts gX2_worstTear_X1_worstPlace rfl rfl rfl (by decide +kernel) ⟨Nat.le_of_ble_eq_true rfl, Nat.le_of_ble_eq_true rfl⟩) hK (va_recv hK.1 hL1 (ci := 1) (q0 := 0) rfl rfl) (hL1) rfl hl.1 rfl (Nat.le_of_ble_eq_true rfl) dX2_worstTear_5 ⟨Nat.le_of_ble_eq_true rfl, Nat.le_of_ble_eq_true rfl⟩ ?_
  exact hret _ _ dX2_worstTear_8

set_option maxHeartbeats 4000000 in
set_option maxRecDepth 100000 in
/-- worstTear_x -/
theorem c_X2_worstTear_x (l : Launch) (hlt : l.stackTraces = false) (g : gT) (AD : Nat → Nat) (LL : Nat → ltT) (EE : Nat → evT) (LN : Nat → Nat) (lc ec : Nat) (hlc : lc ≤ 12) (hec : ec ≤ 24) (hLL : ∀ i, i < 12 → (LL i).2.2 ≤ 40) (hEE : ∀ q, q < ec → (EE q).1 = nI (LN q) ∧ LN q < lc ∧ (EE q).2.2.1 ≤ 40 ∧ (EE q).2.2.2.1 ≤ 8) (x : Int32) (hxb : inB x lc = false) : xM g l yX2_worstTear wsX2_worstTear { frames := 7, cells := 1, slots := 6, locals := 103 } [.ref (AD 0), .int (x)] (fun H => va_P (gD g) vwCl (wsD g AD LL EE lc ec) H) "java/lang/IndexOutOfBoundsException" := by
  refine xr_of (cc := cX2_worstTear) (maxL := 2) (ret := (some .int)) (by decide) rfl (Nat.le_of_ble_eq_true rfl) ?_
  intro p e s m args below meth c ls hx hb hml hts hown hK hP hZ hlocks ht hl
  have hl : lv_has ls 2 [(0, .ref (AD 0)), (1, .int (x))] := hl
  have S : CallFix p m c cX2_worstTear 2 s args wsX2_worstTear RX2 := ⟨hx, hb, hml, hown, hts⟩
  refine lv_aload_n hx hb dX2_worstTear_0 rfl (lv_at hl 0 rfl) ?_
  refine lv_iload_n hx hb dX2_worstTear_1 rfl (lv_at hl 1 rfl) ?_
  exact x_V (As := [.int (x)]) (rest := []) S (c_X2_requireLetter_x l hlt g AD LL EE LN lc ec hlc hec hLL hEE x hxb) (cwV 1 hts gX2_worstTear_X2_requireLetter rfl rfl rfl (by decide +kernel) ⟨Nat.le_of_ble_eq_true rfl, Nat.le_of_ble_eq_true rfl⟩) hK hZ (va_recv hK.1 hP (ci := 2) (q0 := 0) rfl dk_me) (hP) rfl hl.1 rfl (Nat.le_of_ble_eq_true rfl) dX2_worstTear_2 ⟨Nat.le_of_ble_eq_true rfl, Nat.le_of_ble_eq_true rfl⟩ ht hlocks

set_option maxHeartbeats 4000000 in
set_option maxRecDepth 100000 in
/-- signAt -/
theorem c_X2_signAt (l : Launch) (g : gT) (AD : Nat → Nat) (LL : Nat → ltT) (EE : Nat → evT) (LN : Nat → Nat) (lc ec : Nat) (hlc : lc ≤ 12) (hec : ec ≤ 24) (hLL : ∀ i, i < 12 → (LL i).2.2 ≤ 40) (hEE : ∀ q, q < ec → (EE q).1 = nI (LN q) ∧ LN q < lc ∧ (EE q).2.2.1 ≤ 40 ∧ (EE q).2.2.2.1 ≤ 8) (k : Nat) (hk : k < lc) (j : Nat) (hj : j < (LL k).2.2) : pM g l yX2_signAt wsX2_signAt { frames := 8, cells := 0, slots := 0, locals := 126 } [.ref (AD 0), .int (nI k), .int (nI j)] (fun H => va_P (gD g) vwCl (wsD g AD LL EE lc ec) H) (.int ((LL k).1 j)) := by
  refine pu_ofI (cc := cX2_signAt) (maxL := 3) (by decide) rfl (Nat.le_of_ble_eq_true rfl) ?_
  intro p e s m args below meth c H ls Q hx hb hml hts hown hK hP hl hret
  have hl : lv_has ls 3 [(0, .ref (AD 0)), (1, .int (nI k)), (2, .int (nI j))] := hl
  have S : CallFix p m c cX2_signAt 3 s args wsX2_signAt RX2 := ⟨hx, hb, hml, hown, hts⟩
  have hk40 := hLL k (by omega)
  have iX1 : ∀ w ∈ u_ws RX1 TX1 3, w ∈ wsX2_signAt := by decide +kernel
  have n66 : (Cond.fieldLinkNest RX2 66 "LetterSeals$Letter" "signs" "[I" "LetterSeals").before args s = true := va_Nw.use rfl (hK.2.1 ("LetterSeals", 66, "LetterSeals$Letter", "signs", "[I") (List.mem_of_getElem? (i := 0) rfl))
  refine lv_aload_n hx hb dX2_signAt_0 rfl (lv_at hl 0 rfl) ?_
  refine lv_iload_n hx hb dX2_signAt_1 rfl (lv_at hl 1 rfl) ?_
  refine lv_iload_n hx hb dX2_signAt_2 rfl (lv_at hl 2 rfl) ?_
  refine p_V (As := [.int (nI k), .int (nI j)]) (rest := []) S (c_X2_requireLetterWithPlace l g AD LL EE LN lc ec hlc hec hLL hEE k hk j hj) (cwV 2 hts gX2_signAt_X2_requireLetterWithPlace rfl rfl rfl (by decide +kernel) ⟨Nat.le_of_ble_eq_true rfl, Nat.le_of_ble_eq_true rfl⟩) hK (va_recv hK.1 hP (ci := 2) (q0 := 0) rfl dk_me) (hP) rfl hl.1 rfl (Nat.le_of_ble_eq_true rfl) dX2_signAt_3 ⟨Nat.le_of_ble_eq_true rfl, Nat.le_of_ble_eq_true rfl⟩ ?_
  have hL1 := dk_letter hP (i := k) (by omega)
  refine va_getN (D := gD g) (ci := 1) (v := .ref (AD (4 + 3 * k))) (C := RX1) (T := TX1) (N := 3) hx hb hts iX1 hown hK.1 hL1 0 rfl rfl 0 (by decide) n66 (fun _ h9 => h9) rfl dX2_signAt_6 ?_
  refine lv_iload_n hx hb dX2_signAt_9 rfl (lv_at hl 2 rfl) ?_
  refine ld_I (k := j) (n := 40) (f := (LL k).1) hx hb hK.1 hL1 1 rfl (by omega) (by omega) dX2_signAt_10 ?_
  exact hret _ _ dX2_signAt_11

set_option maxHeartbeats 4000000 in
set_option maxRecDepth 100000 in
/-- signAt_x -/
theorem c_X2_signAt_x (l : Launch) (hlt : l.stackTraces = false) (g : gT) (AD : Nat → Nat) (LL : Nat → ltT) (EE : Nat → evT) (LN : Nat → Nat) (lc ec : Nat) (hlc : lc ≤ 12) (hec : ec ≤ 24) (hLL : ∀ i, i < 12 → (LL i).2.2 ≤ 40) (hEE : ∀ q, q < ec → (EE q).1 = nI (LN q) ∧ LN q < lc ∧ (EE q).2.2.1 ≤ 40 ∧ (EE q).2.2.2.1 ≤ 8) (x : Int32) (hxb : inB x lc = false) (y : Int32) : xM g l yX2_signAt wsX2_signAt { frames := 8, cells := 1, slots := 6, locals := 126 } [.ref (AD 0), .int (x), .int (y)] (fun H => va_P (gD g) vwCl (wsD g AD LL EE lc ec) H) "java/lang/IndexOutOfBoundsException" := by
  refine xr_of (cc := cX2_signAt) (maxL := 3) (ret := (some .int)) (by decide) rfl (Nat.le_of_ble_eq_true rfl) ?_
  intro p e s m args below meth c ls hx hb hml hts hown hK hP hZ hlocks ht hl
  have hl : lv_has ls 3 [(0, .ref (AD 0)), (1, .int (x)), (2, .int (y))] := hl
  have S : CallFix p m c cX2_signAt 3 s args wsX2_signAt RX2 := ⟨hx, hb, hml, hown, hts⟩
  refine lv_aload_n hx hb dX2_signAt_0 rfl (lv_at hl 0 rfl) ?_
  refine lv_iload_n hx hb dX2_signAt_1 rfl (lv_at hl 1 rfl) ?_
  refine lv_iload_n hx hb dX2_signAt_2 rfl (lv_at hl 2 rfl) ?_
  exact x_V (As := [.int (x), .int (y)]) (rest := []) S (c_X2_requireLetterWithPlace_x l hlt g AD LL EE LN lc ec hlc hec hLL hEE x hxb y) (cwV 2 hts gX2_signAt_X2_requireLetterWithPlace rfl rfl rfl (by decide +kernel) ⟨Nat.le_of_ble_eq_true rfl, Nat.le_of_ble_eq_true rfl⟩) hK hZ (va_recv hK.1 hP (ci := 2) (q0 := 0) rfl dk_me) (hP) rfl hl.1 rfl (Nat.le_of_ble_eq_true rfl) dX2_signAt_3 ⟨Nat.le_of_ble_eq_true rfl, Nat.le_of_ble_eq_true rfl⟩ ht hlocks

set_option maxHeartbeats 4000000 in
set_option maxRecDepth 100000 in
/-- signAt_y -/
theorem c_X2_signAt_y (l : Launch) (hlt : l.stackTraces = false) (g : gT) (AD : Nat → Nat) (LL : Nat → ltT) (EE : Nat → evT) (LN : Nat → Nat) (lc ec : Nat) (hlc : lc ≤ 12) (hec : ec ≤ 24) (hLL : ∀ i, i < 12 → (LL i).2.2 ≤ 40) (hEE : ∀ q, q < ec → (EE q).1 = nI (LN q) ∧ LN q < lc ∧ (EE q).2.2.1 ≤ 40 ∧ (EE q).2.2.2.1 ≤ 8) (k : Nat) (hk : k < lc) (y : Int32) (hy : inB y (LL k).2.2 = false) : xM g l yX2_signAt wsX2_signAt { frames := 8, cells := 1, slots := 6, locals := 126 } [.ref (AD 0), .int (nI k), .int (y)] (fun H => va_P (gD g) vwCl (wsD g AD LL EE lc ec) H) "java/lang/IndexOutOfBoundsException" := by
  refine xr_of (cc := cX2_signAt) (maxL := 3) (ret := (some .int)) (by decide) rfl (Nat.le_of_ble_eq_true rfl) ?_
  intro p e s m args below meth c ls hx hb hml hts hown hK hP hZ hlocks ht hl
  have hl : lv_has ls 3 [(0, .ref (AD 0)), (1, .int (nI k)), (2, .int (y))] := hl
  have S : CallFix p m c cX2_signAt 3 s args wsX2_signAt RX2 := ⟨hx, hb, hml, hown, hts⟩
  refine lv_aload_n hx hb dX2_signAt_0 rfl (lv_at hl 0 rfl) ?_
  refine lv_iload_n hx hb dX2_signAt_1 rfl (lv_at hl 1 rfl) ?_
  refine lv_iload_n hx hb dX2_signAt_2 rfl (lv_at hl 2 rfl) ?_
  exact x_V (As := [.int (nI k), .int (y)]) (rest := []) S (c_X2_requireLetterWithPlace_y l hlt g AD LL EE LN lc ec hlc hec hLL hEE k hk y hy) (cwV 2 hts gX2_signAt_X2_requireLetterWithPlace rfl rfl rfl (by decide +kernel) ⟨Nat.le_of_ble_eq_true rfl, Nat.le_of_ble_eq_true rfl⟩) hK hZ (va_recv hK.1 hP (ci := 2) (q0 := 0) rfl dk_me) (hP) rfl hl.1 rfl (Nat.le_of_ble_eq_true rfl) dX2_signAt_3 ⟨Nat.le_of_ble_eq_true rfl, Nat.le_of_ble_eq_true rfl⟩ ht hlocks

theorem sum_no {n : Nat} {x y : Int32} (hn : n ≤ 40) (hb2 : ((decide (1 ≤ y) && decide (y ≤ nI n)) && (decide (0 ≤ x) && decide (x ≤ nI n - y))) = false) (h1 : ¬ y < 1) (h2 : ¬ x < 0) (h3 : y ≤ nI n - x) : False := by
  obtain ⟨a, ha, rfl⟩ := nI_of (x := x) h2
  have h1' : ¬ y < 0 := fun q => h1 (Int32.lt_of_lt_of_le q (by decide +kernel))
  obtain ⟨b, hb, rfl⟩ := nI_of (x := y) h1'
  have e1 : (nI n - nI a).toInt = (n : Int) - (a : Int) := by
    rw [Int32.toInt_sub, nI_toInt (by omega), nI_toInt ha]
    rw [Int.bmod_def]
    split <;> omega
  have h4 : b + a ≤ n := by
    have h5 := Int32.le_iff_toInt_le.mp h3
    rw [e1, nI_toInt hb] at h5
    omega
  have h6 : 1 ≤ b := by
    refine Nat.pos_of_ne_zero fun q => h1 ?_
    rw [q]
    decide +kernel
  rw [rng_1 h6 (by omega : b ≤ n) (by omega), rng_2 (by omega : a + b ≤ n) (by omega)] at hb2
  exact absurd hb2 (by decide)

set_option maxHeartbeats 4000000 in
set_option maxRecDepth 100000 in
/-- sumOf -/
theorem c_X2_sumOf (l : Launch) (g : gT) (AD : Nat → Nat) (LL : Nat → ltT) (EE : Nat → evT) (LN : Nat → Nat) (lc ec : Nat) (hlc : lc ≤ 12) (hec : ec ≤ 24) (hLL : ∀ i, i < 12 → (LL i).2.2 ≤ 40) (hEE : ∀ q, q < ec → (EE q).1 = nI (LN q) ∧ LN q < lc ∧ (EE q).2.2.1 ≤ 40 ∧ (EE q).2.2.2.1 ≤ 8) (k : Nat) (hk : k < lc) (o t : Nat) (ht : 1 ≤ t) (ho : o + t ≤ (LL k).2.2) : pM g l yX2_sumOf wsX2_sumOf { frames := 7, cells := 0, slots := 0, locals := 103 } [.ref (AD 0), .int (nI k), .int (nI o), .int (nI t)] (fun H => va_P (gD g) vwCl (wsD g AD LL EE lc ec) H) (.int (wnF ((LL k).1) o t)) := by
  refine pu_ofI (cc := cX2_sumOf) (maxL := 5) (by decide) rfl (Nat.le_of_ble_eq_true rfl) ?_
  intro p e s m args below meth c H ls Q hx hb hml hts hown hK hP hl hret
  have hl : lv_has ls 5 [(0, .ref (AD 0)), (1, .int (nI k)), (2, .int (nI o)), (3, .int (nI t))] := hl
  have S : CallFix p m c cX2_sumOf 5 s args wsX2_sumOf RX2 := ⟨hx, hb, hml, hown, hts⟩
  have hk40 := hLL k (by omega)
  have iX1 : ∀ w ∈ u_ws RX1 TX1 3, w ∈ wsX2_sumOf := by decide +kernel
  have n42 : (Cond.fieldLinkNest RX2 42 "LetterSeals$Letter" "count" "I" "LetterSeals").before args s = true := va_Nw.use rfl (hK.2.1 ("LetterSeals", 42, "LetterSeals$Letter", "count", "I") (List.mem_of_getElem? (i := 3) rfl))
  refine lv_aload_n hx hb dX2_sumOf_0 rfl (lv_at hl 0 rfl) ?_
  refine lv_iload_n hx hb dX2_sumOf_1 rfl (lv_at hl 1 rfl) ?_
  refine p_V (As := [.int (nI k)]) (rest := []) S (c_X2_requireLetter l g AD LL EE LN lc ec hlc hec hLL hEE k hk) (cwV 1 hts gX2_sumOf_X2_requireLetter rfl rfl rfl (by decide +kernel) ⟨Nat.le_of_ble_eq_true rfl, Nat.le_of_ble_eq_true rfl⟩) hK (va_recv hK.1 hP (ci := 2) (q0 := 0) rfl dk_me) (hP) rfl hl.1 rfl (Nat.le_of_ble_eq_true rfl) dX2_sumOf_2 ⟨Nat.le_of_ble_eq_true rfl, Nat.le_of_ble_eq_true rfl⟩ ?_
  refine lv_astore (lv' := [(4, .ref (AD (3 + 3 * k))), (0, .ref (AD 0)), (1, .int (nI k)), (2, .int (nI o)), (3, .int (nI t))]) hx hb dX2_sumOf_5 hl (by decide) rfl (fun ls hl => ?_)
  refine lv_iload_n hx hb dX2_sumOf_7 rfl (lv_at hl 4 rfl) ?_
  refine lv_iconst (v := nI (1)) hx hb dX2_sumOf_8 (by decide +kernel) ?_
  refine br_lt (a := t) (b := 1) (tgt := 27) hx hb (by omega) (by omega) dX2_sumOf_9 (by decide) (fun c9 => ?_) (fun c9 => ?_)
  · omega
  · refine lv_iload_n hx hb dX2_sumOf_12 rfl (lv_at hl 3 rfl) ?_
    refine br_lt0 (a := o) (tgt := 27) hx hb (by omega) dX2_sumOf_13 (by decide) (fun c13 => ?_) (fun c13 => ?_)
    · exact c13.elim
    · refine lv_iload_n hx hb dX2_sumOf_16 rfl (lv_at hl 4 rfl) ?_
      refine lv_aload hx hb dX2_sumOf_17 (lv_at hl 0 rfl) ?_
      have hL1 := dk_letter hP (i := k) (by omega)
      refine va_getN (D := gD g) (ci := 1) (v := .int (nI ((LL k).2.2))) (C := RX1) (T := TX1) (N := 3) hx hb hts iX1 hown hK.1 hL1 0 rfl rfl 2 (by decide) n42 (fun _ h9 => h9) rfl dX2_sumOf_19 ?_
      refine lv_iload_n hx hb dX2_sumOf_22 rfl (lv_at hl 3 rfl) ?_
      refine lv_isub hx hb dX2_sumOf_23 ?_
      refine lv_toI (z := nI ((LL k).2.2 - o)) (pk_sub (by omega)) ?_
      refine br_le (a := t) (b := (LL k).2.2 - o) (tgt := 37) hx hb (by omega) (by omega) dX2_sumOf_24 (by decide) (fun c24 => ?_) (fun c24 => ?_)
      · refine lv_aload hx hb dX2_sumOf_37 (lv_at hl 0 rfl) ?_
        refine lv_iload_n hx hb dX2_sumOf_39 rfl (lv_at hl 3 rfl) ?_
        refine lv_iload_n hx hb dX2_sumOf_40 rfl (lv_at hl 4 rfl) ?_
        refine p_V (As := [.int (nI o), .int (nI t)]) (rest := []) S (c_X1_windowSum l g (AD (3 + 3 * k)) (AD (4 + 3 * k)) (AD (5 + 3 * k)) ((LL k).1) ((LL k).2.1) ((LL k).2.2) (hLL _ (by omega)) o t (by omega)) (cwV 2 hts gX2_sumOf_X1_windowSum rfl rfl rfl (by decide +kernel) ⟨Nat.le_of_ble_eq_true rfl, Nat.le_of_ble_eq_true rfl⟩) hK (va_recv hK.1 hL1 (ci := 1) (q0 := 0) rfl rfl) (hL1) rfl hl.1 rfl (Nat.le_of_ble_eq_true rfl) dX2_sumOf_41 ⟨Nat.le_of_ble_eq_true rfl, Nat.le_of_ble_eq_true rfl⟩ ?_
        exact hret _ _ dX2_sumOf_44
      · omega

set_option maxHeartbeats 4000000 in
set_option maxRecDepth 100000 in
/-- sumOf_x -/
theorem c_X2_sumOf_x (l : Launch) (hlt : l.stackTraces = false) (g : gT) (AD : Nat → Nat) (LL : Nat → ltT) (EE : Nat → evT) (LN : Nat → Nat) (lc ec : Nat) (hlc : lc ≤ 12) (hec : ec ≤ 24) (hLL : ∀ i, i < 12 → (LL i).2.2 ≤ 40) (hEE : ∀ q, q < ec → (EE q).1 = nI (LN q) ∧ LN q < lc ∧ (EE q).2.2.1 ≤ 40 ∧ (EE q).2.2.2.1 ≤ 8) (x : Int32) (hxb : inB x lc = false) (y z : Int32) : xM g l yX2_sumOf wsX2_sumOf { frames := 7, cells := 1, slots := 6, locals := 103 } [.ref (AD 0), .int (x), .int (y), .int (z)] (fun H => va_P (gD g) vwCl (wsD g AD LL EE lc ec) H) "java/lang/IndexOutOfBoundsException" := by
  refine xr_of (cc := cX2_sumOf) (maxL := 5) (ret := (some .int)) (by decide) rfl (Nat.le_of_ble_eq_true rfl) ?_
  intro p e s m args below meth c ls hx hb hml hts hown hK hP hZ hlocks ht hl
  have hl : lv_has ls 5 [(0, .ref (AD 0)), (1, .int (x)), (2, .int (y)), (3, .int (z))] := hl
  have S : CallFix p m c cX2_sumOf 5 s args wsX2_sumOf RX2 := ⟨hx, hb, hml, hown, hts⟩
  refine lv_aload_n hx hb dX2_sumOf_0 rfl (lv_at hl 0 rfl) ?_
  refine lv_iload_n hx hb dX2_sumOf_1 rfl (lv_at hl 1 rfl) ?_
  exact x_V (As := [.int (x)]) (rest := []) S (c_X2_requireLetter_x l hlt g AD LL EE LN lc ec hlc hec hLL hEE x hxb) (cwV 1 hts gX2_sumOf_X2_requireLetter rfl rfl rfl (by decide +kernel) ⟨Nat.le_of_ble_eq_true rfl, Nat.le_of_ble_eq_true rfl⟩) hK hZ (va_recv hK.1 hP (ci := 2) (q0 := 0) rfl dk_me) (hP) rfl hl.1 rfl (Nat.le_of_ble_eq_true rfl) dX2_sumOf_2 ⟨Nat.le_of_ble_eq_true rfl, Nat.le_of_ble_eq_true rfl⟩ ht hlocks

set_option maxHeartbeats 4000000 in
set_option maxRecDepth 100000 in
/-- sumOf_a -/
theorem c_X2_sumOf_a (l : Launch) (hlt : l.stackTraces = false) (g : gT) (AD : Nat → Nat) (LL : Nat → ltT) (EE : Nat → evT) (LN : Nat → Nat) (lc ec : Nat) (hlc : lc ≤ 12) (hec : ec ≤ 24) (hLL : ∀ i, i < 12 → (LL i).2.2 ≤ 40) (hEE : ∀ q, q < ec → (EE q).1 = nI (LN q) ∧ LN q < lc ∧ (EE q).2.2.1 ≤ 40 ∧ (EE q).2.2.2.1 ≤ 8) (k : Nat) (hk : k < lc) (x y : Int32) (hb2 : ((decide (1 ≤ y) && decide (y ≤ nI (LL k).2.2)) && (decide (0 ≤ x) && decide (x ≤ nI (LL k).2.2 - y))) = false) : xM g l yX2_sumOf wsX2_sumOf { frames := 7, cells := 1, slots := 6, locals := 103 } [.ref (AD 0), .int (nI k), .int (x), .int (y)] (fun H => va_P (gD g) vwCl (wsD g AD LL EE lc ec) H) "java/lang/IllegalArgumentException" := by
  refine xr_of (cc := cX2_sumOf) (maxL := 5) (ret := (some .int)) (by decide) rfl (Nat.le_of_ble_eq_true rfl) ?_
  intro p e s m args below meth c ls hx hb hml hts hown hK hP hZ hlocks ht hl
  have hl : lv_has ls 5 [(0, .ref (AD 0)), (1, .int (nI k)), (2, .int (x)), (3, .int (y))] := hl
  have S : CallFix p m c cX2_sumOf 5 s args wsX2_sumOf RX2 := ⟨hx, hb, hml, hown, hts⟩
  have hk40 := hLL k (by omega)
  have iX1 : ∀ w ∈ u_ws RX1 TX1 3, w ∈ wsX2_sumOf := by decide +kernel
  have n42 : (Cond.fieldLinkNest RX2 42 "LetterSeals$Letter" "count" "I" "LetterSeals").before args s = true := va_Nw.use rfl (hK.2.1 ("LetterSeals", 42, "LetterSeals$Letter", "count", "I") (List.mem_of_getElem? (i := 3) rfl))
  refine lv_aload_n hx hb dX2_sumOf_0 rfl (lv_at hl 0 rfl) ?_
  refine lv_iload_n hx hb dX2_sumOf_1 rfl (lv_at hl 1 rfl) ?_
  refine p_V (As := [.int (nI k)]) (rest := []) S (c_X2_requireLetter l g AD LL EE LN lc ec hlc hec hLL hEE k hk) (cwV 1 hts gX2_sumOf_X2_requireLetter rfl rfl rfl (by decide +kernel) ⟨Nat.le_of_ble_eq_true rfl, Nat.le_of_ble_eq_true rfl⟩) hK (va_recv hK.1 hP (ci := 2) (q0 := 0) rfl dk_me) (hP) rfl hl.1 rfl (Nat.le_of_ble_eq_true rfl) dX2_sumOf_2 ⟨Nat.le_of_ble_eq_true rfl, Nat.le_of_ble_eq_true rfl⟩ ?_
  refine lv_astore (lv' := [(4, .ref (AD (3 + 3 * k))), (0, .ref (AD 0)), (1, .int (nI k)), (2, .int (x)), (3, .int (y))]) hx hb dX2_sumOf_5 hl (by decide) rfl (fun ls hl => ?_)
  refine lv_iload_n hx hb dX2_sumOf_7 rfl (lv_at hl 4 rfl) ?_
  refine lv_iconst (v := 1) hx hb dX2_sumOf_8 (by decide +kernel) ?_
  refine lv_icmp_lt (tgt := 27) hx hb dX2_sumOf_9 (by decide) (fun c9 => ?_) (fun c9 => ?_)
  · exact x_throw (E := "java/lang/IllegalArgumentException") (text := "the letter has no such window") (ik := 104) (is := 106) (ic := 108) hx hb hlt hown hts (by decide +kernel) (by decide +kernel) (by decide +kernel) (by decide +kernel) (by decide +kernel) (by decide +kernel) hK (List.mem_of_getElem? (i := 1) rfl) (List.mem_of_getElem? (i := 11) rfl) hZ (hl.1.trans hml.symm) dX2_sumOf_27 dX2_sumOf_30 dX2_sumOf_31 dX2_sumOf_33 dX2_sumOf_36 ht (Nat.le_of_ble_eq_true rfl) (Nat.le_of_ble_eq_true rfl) (Nat.le_of_ble_eq_true rfl) (Nat.le_of_ble_eq_true rfl) hlocks
  · refine lv_iload_n hx hb dX2_sumOf_12 rfl (lv_at hl 3 rfl) ?_
    refine lv_if_lt (tgt := 27) hx hb dX2_sumOf_13 (by decide) (fun c13 => ?_) (fun c13 => ?_)
    · exact x_throw (E := "java/lang/IllegalArgumentException") (text := "the letter has no such window") (ik := 104) (is := 106) (ic := 108) hx hb hlt hown hts (by decide +kernel) (by decide +kernel) (by decide +kernel) (by decide +kernel) (by decide +kernel) (by decide +kernel) hK (List.mem_of_getElem? (i := 1) rfl) (List.mem_of_getElem? (i := 11) rfl) hZ (hl.1.trans hml.symm) dX2_sumOf_27 dX2_sumOf_30 dX2_sumOf_31 dX2_sumOf_33 dX2_sumOf_36 ht (Nat.le_of_ble_eq_true rfl) (Nat.le_of_ble_eq_true rfl) (Nat.le_of_ble_eq_true rfl) (Nat.le_of_ble_eq_true rfl) hlocks
    · refine lv_iload_n hx hb dX2_sumOf_16 rfl (lv_at hl 4 rfl) ?_
      refine lv_aload hx hb dX2_sumOf_17 (lv_at hl 0 rfl) ?_
      have hL1 := dk_letter hP (i := k) (by omega)
      refine va_getN (D := gD g) (ci := 1) (v := .int (nI ((LL k).2.2))) (C := RX1) (T := TX1) (N := 3) hx hb hts iX1 hown hK.1 hL1 0 rfl rfl 2 (by decide) n42 (fun _ h9 => h9) rfl dX2_sumOf_19 ?_
      refine lv_iload_n hx hb dX2_sumOf_22 rfl (lv_at hl 3 rfl) ?_
      refine lv_isub hx hb dX2_sumOf_23 ?_
      refine lv_icmp_le (tgt := 37) hx hb dX2_sumOf_24 (by decide) (fun c24 => ?_) (fun c24 => ?_)
      · exact (sum_no hk40 hb2 c9 c13 c24).elim
      · exact x_throw (E := "java/lang/IllegalArgumentException") (text := "the letter has no such window") (ik := 104) (is := 106) (ic := 108) hx hb hlt hown hts (by decide +kernel) (by decide +kernel) (by decide +kernel) (by decide +kernel) (by decide +kernel) (by decide +kernel) hK (List.mem_of_getElem? (i := 1) rfl) (List.mem_of_getElem? (i := 11) rfl) hZ (hl.1.trans hml.symm) dX2_sumOf_27 dX2_sumOf_30 dX2_sumOf_31 dX2_sumOf_33 dX2_sumOf_36 ht (Nat.le_of_ble_eq_true rfl) (Nat.le_of_ble_eq_true rfl) (Nat.le_of_ble_eq_true rfl) (Nat.le_of_ble_eq_true rfl) hlocks

set_option maxHeartbeats 4000000 in
set_option maxRecDepth 100000 in
/-- sameSums -/
theorem c_X2_sameSums (l : Launch) (g : gT) (AD : Nat → Nat) (LL : Nat → ltT) (EE : Nat → evT) (LN : Nat → Nat) (lc ec : Nat) (hlc : lc ≤ 12) (hec : ec ≤ 24) (hLL : ∀ i, i < 12 → (LL i).2.2 ≤ 40) (hEE : ∀ q, q < ec → (EE q).1 = nI (LN q) ∧ LN q < lc ∧ (EE q).2.2.1 ≤ 40 ∧ (EE q).2.2.2.1 ≤ 8) (k : Nat) (hk : k < lc) (t : Nat) (ht : 1 ≤ t) (ht2 : t ≤ 40) : wM g l yX2_sameSums wsX2_sameSums { frames := 7, cells := 0, slots := 0, locals := 103 } [.ref (AD 0), .int (nI k), .int (nI t)] (wsD g AD LL EE lc ec) (some (.int (ssV (LL k).1 t false (LL k).2.2))) (wsD g AD (fup LL k (((LL k).1, wnV (LL k).1 (LL k).2.1 t (LL k).2.2, (LL k).2.2) : ltT)) EE lc ec) := by
  refine wr_ofI (cc := cX2_sameSums) (maxL := 4) (by decide) rfl (Nat.le_of_ble_eq_true rfl) ?_
  intro p e s m args below meth c H0 ls A Q hx hb hml hts hown hK hP hD hS hl hret
  have hl : lv_has ls 4 [(0, .ref (AD 0)), (1, .int (nI k)), (2, .int (nI t))] := hl
  have S : CallFix p m c cX2_sameSums 4 s args wsX2_sameSums RX2 := ⟨hx, hb, hml, hown, hts⟩
  have hk40 := hLL k (by omega)
  obtain ⟨H, eH⟩ : ∃ H : Heap, H = H0 := ⟨_, rfl⟩
  rw [← eH] at hP ⊢
  have hS : va_S A H0 H [] := by rw [eH]; exact hS
  refine lv_aload_n hx hb dX2_sameSums_0 rfl (lv_at hl 0 rfl) ?_
  refine lv_iload_n hx hb dX2_sameSums_1 rfl (lv_at hl 1 rfl) ?_
  refine p_V (As := [.int (nI k)]) (rest := []) S (c_X2_requireLetter l g AD LL EE LN lc ec hlc hec hLL hEE k hk) (cwV 1 hts gX2_sameSums_X2_requireLetter rfl rfl rfl (by decide +kernel) ⟨Nat.le_of_ble_eq_true rfl, Nat.le_of_ble_eq_true rfl⟩) hK (va_recv hK.1 hP (ci := 2) (q0 := 0) rfl dk_me) (hP) rfl hl.1 rfl (Nat.le_of_ble_eq_true rfl) dX2_sameSums_2 ⟨Nat.le_of_ble_eq_true rfl, Nat.le_of_ble_eq_true rfl⟩ ?_
  refine lv_astore_n (lv' := [(3, .ref (AD (3 + 3 * k))), (0, .ref (AD 0)), (1, .int (nI k)), (2, .int (nI t))]) hx hb dX2_sameSums_5 rfl hl (by decide) rfl (fun ls hl => ?_)
  refine lv_iload_n hx hb dX2_sameSums_6 rfl (lv_at hl 3 rfl) ?_
  refine p_Sv (As := [.int (nI t)]) (rest := []) S (c_X2_requireWindowLength l g t ht ht2) (va_cwS 1 hts gX2_sameSums_X2_requireWindowLength rfl rfl rfl (by decide +kernel) ⟨Nat.le_of_ble_eq_true rfl, Nat.le_of_ble_eq_true rfl⟩) hK  (trivial) rfl hl.1 rfl (Nat.le_of_ble_eq_true rfl) dX2_sameSums_7 ⟨Nat.le_of_ble_eq_true rfl, Nat.le_of_ble_eq_true rfl⟩ ?_
  refine lv_aload_n hx hb dX2_sameSums_10 rfl (lv_at hl 0 rfl) ?_
  refine lv_iload_n hx hb dX2_sameSums_11 rfl (lv_at hl 3 rfl) ?_
  have hL1 := dk_letter hP (i := k) (by omega)
  refine w_V (As := [.int (nI t)]) (rest := []) S (c_X1_sameSumPairsU l g (AD (3 + 3 * k)) (AD (4 + 3 * k)) (AD (5 + 3 * k)) ((LL k).1) ((LL k).2.1) ((LL k).2.2) (hLL _ (by omega)) t ht ht2) (cwV 1 hts gX2_sameSums_X1_sameSumPairs rfl rfl rfl (by decide +kernel) ⟨Nat.le_of_ble_eq_true rfl, Nat.le_of_ble_eq_true rfl⟩) hK (va_recv hK.1 hL1 (ci := 1) (q0 := 0) rfl rfl) (hL1) ((dk_letterD hD (i := k) (by omega)).weaken (fun _ _ _ _ => trivial)) hS (wA_of (dk_letterD hD (i := k) (by omega))) rfl hl.1 rfl (Nat.le_of_ble_eq_true rfl) dX2_sameSums_12 ⟨Nat.le_of_ble_eq_true rfl, Nat.le_of_ble_eq_true rfl⟩ (fun H locs hP1 hz1 hk1 hS => ?_)
  have hL0 := hP1
  have hP : va_P (gD g) vwCl (wsD g AD (fup LL k (((LL k).1, wnV (LL k).1 (LL k).2.1 t (LL k).2.2, (LL k).2.2) : ltT)) EE lc ec) H := dk_upL hP hD (i := k) (u := (((LL k).1, wnV (LL k).1 (LL k).2.1 t (LL k).2.2, (LL k).2.2) : ltT)) (by omega) hP1 (fun _ h9 => ltX_wA h9) hk1
  have hD : va_D A (wsD g AD (fup LL k (((LL k).1, wnV (LL k).1 (LL k).2.1 t (LL k).2.2, (LL k).2.2) : ltT)) EE lc ec) := dk_Dsame hD
  exact hret _ _ _ _ hP hS dX2_sameSums_15

set_option maxHeartbeats 4000000 in
set_option maxRecDepth 100000 in
/-- sameSums_x -/
theorem c_X2_sameSums_x (l : Launch) (hlt : l.stackTraces = false) (g : gT) (AD : Nat → Nat) (LL : Nat → ltT) (EE : Nat → evT) (LN : Nat → Nat) (lc ec : Nat) (hlc : lc ≤ 12) (hec : ec ≤ 24) (hLL : ∀ i, i < 12 → (LL i).2.2 ≤ 40) (hEE : ∀ q, q < ec → (EE q).1 = nI (LN q) ∧ LN q < lc ∧ (EE q).2.2.1 ≤ 40 ∧ (EE q).2.2.2.1 ≤ 8) (x : Int32) (hxb : inB x lc = false) (y : Int32) : xM g l yX2_sameSums wsX2_sameSums { frames := 7, cells := 1, slots := 6, locals := 103 } [.ref (AD 0), .int (x), .int (y)] (fun H => va_P (gD g) vwCl (wsD g AD LL EE lc ec) H) "java/lang/IndexOutOfBoundsException" := by
  refine xr_of (cc := cX2_sameSums) (maxL := 4) (ret := (some .int)) (by decide) rfl (Nat.le_of_ble_eq_true rfl) ?_
  intro p e s m args below meth c ls hx hb hml hts hown hK hP hZ hlocks ht hl
  have hl : lv_has ls 4 [(0, .ref (AD 0)), (1, .int (x)), (2, .int (y))] := hl
  have S : CallFix p m c cX2_sameSums 4 s args wsX2_sameSums RX2 := ⟨hx, hb, hml, hown, hts⟩
  refine lv_aload_n hx hb dX2_sameSums_0 rfl (lv_at hl 0 rfl) ?_
  refine lv_iload_n hx hb dX2_sameSums_1 rfl (lv_at hl 1 rfl) ?_
  exact x_V (As := [.int (x)]) (rest := []) S (c_X2_requireLetter_x l hlt g AD LL EE LN lc ec hlc hec hLL hEE x hxb) (cwV 1 hts gX2_sameSums_X2_requireLetter rfl rfl rfl (by decide +kernel) ⟨Nat.le_of_ble_eq_true rfl, Nat.le_of_ble_eq_true rfl⟩) hK hZ (va_recv hK.1 hP (ci := 2) (q0 := 0) rfl dk_me) (hP) rfl hl.1 rfl (Nat.le_of_ble_eq_true rfl) dX2_sameSums_2 ⟨Nat.le_of_ble_eq_true rfl, Nat.le_of_ble_eq_true rfl⟩ ht hlocks

set_option maxHeartbeats 4000000 in
set_option maxRecDepth 100000 in
/-- sameSums_a -/
theorem c_X2_sameSums_a (l : Launch) (hlt : l.stackTraces = false) (g : gT) (AD : Nat → Nat) (LL : Nat → ltT) (EE : Nat → evT) (LN : Nat → Nat) (lc ec : Nat) (hlc : lc ≤ 12) (hec : ec ≤ 24) (hLL : ∀ i, i < 12 → (LL i).2.2 ≤ 40) (hEE : ∀ q, q < ec → (EE q).1 = nI (LN q) ∧ LN q < lc ∧ (EE q).2.2.1 ≤ 40 ∧ (EE q).2.2.2.1 ≤ 8) (k : Nat) (hk : k < lc) (y : Int32) (hy : (decide (1 ≤ y) && decide (y ≤ 40)) = false) : xM g l yX2_sameSums wsX2_sameSums { frames := 7, cells := 1, slots := 6, locals := 103 } [.ref (AD 0), .int (nI k), .int (y)] (fun H => va_P (gD g) vwCl (wsD g AD LL EE lc ec) H) "java/lang/IllegalArgumentException" := by
  refine xr_of (cc := cX2_sameSums) (maxL := 4) (ret := (some .int)) (by decide) rfl (Nat.le_of_ble_eq_true rfl) ?_
  intro p e s m args below meth c ls hx hb hml hts hown hK hP hZ hlocks ht hl
  have hl : lv_has ls 4 [(0, .ref (AD 0)), (1, .int (nI k)), (2, .int (y))] := hl
  have S : CallFix p m c cX2_sameSums 4 s args wsX2_sameSums RX2 := ⟨hx, hb, hml, hown, hts⟩
  refine lv_aload_n hx hb dX2_sameSums_0 rfl (lv_at hl 0 rfl) ?_
  refine lv_iload_n hx hb dX2_sameSums_1 rfl (lv_at hl 1 rfl) ?_
  refine p_V (As := [.int (nI k)]) (rest := []) S (c_X2_requireLetter l g AD LL EE LN lc ec hlc hec hLL hEE k hk) (cwV 1 hts gX2_sameSums_X2_requireLetter rfl rfl rfl (by decide +kernel) ⟨Nat.le_of_ble_eq_true rfl, Nat.le_of_ble_eq_true rfl⟩) hK (va_recv hK.1 hP (ci := 2) (q0 := 0) rfl dk_me) (hP) rfl hl.1 rfl (Nat.le_of_ble_eq_true rfl) dX2_sameSums_2 ⟨Nat.le_of_ble_eq_true rfl, Nat.le_of_ble_eq_true rfl⟩ ?_
  refine lv_astore_n (lv' := [(3, .ref (AD (3 + 3 * k))), (0, .ref (AD 0)), (1, .int (nI k)), (2, .int (y))]) hx hb dX2_sameSums_5 rfl hl (by decide) rfl (fun ls hl => ?_)
  refine lv_iload_n hx hb dX2_sameSums_6 rfl (lv_at hl 3 rfl) ?_
  exact x_S (As := [.int (y)]) (rest := []) S (c_X2_requireWindowLength_x l hlt g y hy) (va_cwS 1 hts gX2_sameSums_X2_requireWindowLength rfl rfl rfl (by decide +kernel) ⟨Nat.le_of_ble_eq_true rfl, Nat.le_of_ble_eq_true rfl⟩) hK hZ  (trivial) rfl hl.1 rfl (Nat.le_of_ble_eq_true rfl) dX2_sameSums_7 ⟨Nat.le_of_ble_eq_true rfl, Nat.le_of_ble_eq_true rfl⟩ ht hlocks

set_option maxHeartbeats 4000000 in
set_option maxRecDepth 100000 in
/-- falseAlarms -/
theorem c_X2_falseAlarms (l : Launch) (g : gT) (AD : Nat → Nat) (LL : Nat → ltT) (EE : Nat → evT) (LN : Nat → Nat) (lc ec : Nat) (hlc : lc ≤ 12) (hec : ec ≤ 24) (hLL : ∀ i, i < 12 → (LL i).2.2 ≤ 40) (hEE : ∀ q, q < ec → (EE q).1 = nI (LN q) ∧ LN q < lc ∧ (EE q).2.2.1 ≤ 40 ∧ (EE q).2.2.2.1 ≤ 8) (k : Nat) (hk : k < lc) (t : Nat) (ht : 1 ≤ t) (ht2 : t ≤ 40) : wM g l yX2_falseAlarms wsX2_falseAlarms { frames := 7, cells := 0, slots := 0, locals := 103 } [.ref (AD 0), .int (nI k), .int (nI t)] (wsD g AD LL EE lc ec) (some (.int (ssV (LL k).1 t true (LL k).2.2))) (wsD g AD (fup LL k (((LL k).1, wnV (LL k).1 (LL k).2.1 t (LL k).2.2, (LL k).2.2) : ltT)) EE lc ec) := by
  refine wr_ofI (cc := cX2_falseAlarms) (maxL := 4) (by decide) rfl (Nat.le_of_ble_eq_true rfl) ?_
  intro p e s m args below meth c H0 ls A Q hx hb hml hts hown hK hP hD hS hl hret
  have hl : lv_has ls 4 [(0, .ref (AD 0)), (1, .int (nI k)), (2, .int (nI t))] := hl
  have S : CallFix p m c cX2_falseAlarms 4 s args wsX2_falseAlarms RX2 := ⟨hx, hb, hml, hown, hts⟩
  have hk40 := hLL k (by omega)
  obtain ⟨H, eH⟩ : ∃ H : Heap, H = H0 := ⟨_, rfl⟩
  rw [← eH] at hP ⊢
  have hS : va_S A H0 H [] := by rw [eH]; exact hS
  refine lv_aload_n hx hb dX2_falseAlarms_0 rfl (lv_at hl 0 rfl) ?_
  refine lv_iload_n hx hb dX2_falseAlarms_1 rfl (lv_at hl 1 rfl) ?_
  refine p_V (As := [.int (nI k)]) (rest := []) S (c_X2_requireLetter l g AD LL EE LN lc ec hlc hec hLL hEE k hk) (cwV 1 hts gX2_falseAlarms_X2_requireLetter rfl rfl rfl (by decide +kernel) ⟨Nat.le_of_ble_eq_true rfl, Nat.le_of_ble_eq_true rfl⟩) hK (va_recv hK.1 hP (ci := 2) (q0 := 0) rfl dk_me) (hP) rfl hl.1 rfl (Nat.le_of_ble_eq_true rfl) dX2_falseAlarms_2 ⟨Nat.le_of_ble_eq_true rfl, Nat.le_of_ble_eq_true rfl⟩ ?_
  refine lv_astore_n (lv' := [(3, .ref (AD (3 + 3 * k))), (0, .ref (AD 0)), (1, .int (nI k)), (2, .int (nI t))]) hx hb dX2_falseAlarms_5 rfl hl (by decide) rfl (fun ls hl => ?_)
  refine lv_iload_n hx hb dX2_falseAlarms_6 rfl (lv_at hl 3 rfl) ?_
  refine p_Sv (As := [.int (nI t)]) (rest := []) S (c_X2_requireWindowLength l g t ht ht2) (va_cwS 1 hts gX2_falseAlarms_X2_requireWindowLength rfl rfl rfl (by decide +kernel) ⟨Nat.le_of_ble_eq_true rfl, Nat.le_of_ble_eq_true rfl⟩) hK  (trivial) rfl hl.1 rfl (Nat.le_of_ble_eq_true rfl) dX2_falseAlarms_7 ⟨Nat.le_of_ble_eq_true rfl, Nat.le_of_ble_eq_true rfl⟩ ?_
  refine lv_aload_n hx hb dX2_falseAlarms_10 rfl (lv_at hl 0 rfl) ?_
  refine lv_iload_n hx hb dX2_falseAlarms_11 rfl (lv_at hl 3 rfl) ?_
  have hL1 := dk_letter hP (i := k) (by omega)
  refine w_V (As := [.int (nI t)]) (rest := []) S (c_X1_falseAlarmPairsU l g (AD (3 + 3 * k)) (AD (4 + 3 * k)) (AD (5 + 3 * k)) ((LL k).1) ((LL k).2.1) ((LL k).2.2) (hLL _ (by omega)) t ht ht2) (cwV 1 hts gX2_falseAlarms_X1_falseAlarmPairs rfl rfl rfl (by decide +kernel) ⟨Nat.le_of_ble_eq_true rfl, Nat.le_of_ble_eq_true rfl⟩) hK (va_recv hK.1 hL1 (ci := 1) (q0 := 0) rfl rfl) (hL1) ((dk_letterD hD (i := k) (by omega)).weaken (fun _ _ _ _ => trivial)) hS (wA_of (dk_letterD hD (i := k) (by omega))) rfl hl.1 rfl (Nat.le_of_ble_eq_true rfl) dX2_falseAlarms_12 ⟨Nat.le_of_ble_eq_true rfl, Nat.le_of_ble_eq_true rfl⟩ (fun H locs hP1 hz1 hk1 hS => ?_)
  have hL0 := hP1
  have hP : va_P (gD g) vwCl (wsD g AD (fup LL k (((LL k).1, wnV (LL k).1 (LL k).2.1 t (LL k).2.2, (LL k).2.2) : ltT)) EE lc ec) H := dk_upL hP hD (i := k) (u := (((LL k).1, wnV (LL k).1 (LL k).2.1 t (LL k).2.2, (LL k).2.2) : ltT)) (by omega) hP1 (fun _ h9 => ltX_wA h9) hk1
  have hD : va_D A (wsD g AD (fup LL k (((LL k).1, wnV (LL k).1 (LL k).2.1 t (LL k).2.2, (LL k).2.2) : ltT)) EE lc ec) := dk_Dsame hD
  exact hret _ _ _ _ hP hS dX2_falseAlarms_15

set_option maxHeartbeats 4000000 in
set_option maxRecDepth 100000 in
/-- falseAlarms_x -/
theorem c_X2_falseAlarms_x (l : Launch) (hlt : l.stackTraces = false) (g : gT) (AD : Nat → Nat) (LL : Nat → ltT) (EE : Nat → evT) (LN : Nat → Nat) (lc ec : Nat) (hlc : lc ≤ 12) (hec : ec ≤ 24) (hLL : ∀ i, i < 12 → (LL i).2.2 ≤ 40) (hEE : ∀ q, q < ec → (EE q).1 = nI (LN q) ∧ LN q < lc ∧ (EE q).2.2.1 ≤ 40 ∧ (EE q).2.2.2.1 ≤ 8) (x : Int32) (hxb : inB x lc = false) (y : Int32) : xM g l yX2_falseAlarms wsX2_falseAlarms { frames := 7, cells := 1, slots := 6, locals := 103 } [.ref (AD 0), .int (x), .int (y)] (fun H => va_P (gD g) vwCl (wsD g AD LL EE lc ec) H) "java/lang/IndexOutOfBoundsException" := by
  refine xr_of (cc := cX2_falseAlarms) (maxL := 4) (ret := (some .int)) (by decide) rfl (Nat.le_of_ble_eq_true rfl) ?_
  intro p e s m args below meth c ls hx hb hml hts hown hK hP hZ hlocks ht hl
  have hl : lv_has ls 4 [(0, .ref (AD 0)), (1, .int (x)), (2, .int (y))] := hl
  have S : CallFix p m c cX2_falseAlarms 4 s args wsX2_falseAlarms RX2 := ⟨hx, hb, hml, hown, hts⟩
  refine lv_aload_n hx hb dX2_falseAlarms_0 rfl (lv_at hl 0 rfl) ?_
  refine lv_iload_n hx hb dX2_falseAlarms_1 rfl (lv_at hl 1 rfl) ?_
  exact x_V (As := [.int (x)]) (rest := []) S (c_X2_requireLetter_x l hlt g AD LL EE LN lc ec hlc hec hLL hEE x hxb) (cwV 1 hts gX2_falseAlarms_X2_requireLetter rfl rfl rfl (by decide +kernel) ⟨Nat.le_of_ble_eq_true rfl, Nat.le_of_ble_eq_true rfl⟩) hK hZ (va_recv hK.1 hP (ci := 2) (q0 := 0) rfl dk_me) (hP) rfl hl.1 rfl (Nat.le_of_ble_eq_true rfl) dX2_falseAlarms_2 ⟨Nat.le_of_ble_eq_true rfl, Nat.le_of_ble_eq_true rfl⟩ ht hlocks

set_option maxHeartbeats 4000000 in
set_option maxRecDepth 100000 in
/-- falseAlarms_a -/
theorem c_X2_falseAlarms_a (l : Launch) (hlt : l.stackTraces = false) (g : gT) (AD : Nat → Nat) (LL : Nat → ltT) (EE : Nat → evT) (LN : Nat → Nat) (lc ec : Nat) (hlc : lc ≤ 12) (hec : ec ≤ 24) (hLL : ∀ i, i < 12 → (LL i).2.2 ≤ 40) (hEE : ∀ q, q < ec → (EE q).1 = nI (LN q) ∧ LN q < lc ∧ (EE q).2.2.1 ≤ 40 ∧ (EE q).2.2.2.1 ≤ 8) (k : Nat) (hk : k < lc) (y : Int32) (hy : (decide (1 ≤ y) && decide (y ≤ 40)) = false) : xM g l yX2_falseAlarms wsX2_falseAlarms { frames := 7, cells := 1, slots := 6, locals := 103 } [.ref (AD 0), .int (nI k), .int (y)] (fun H => va_P (gD g) vwCl (wsD g AD LL EE lc ec) H) "java/lang/IllegalArgumentException" := by
  refine xr_of (cc := cX2_falseAlarms) (maxL := 4) (ret := (some .int)) (by decide) rfl (Nat.le_of_ble_eq_true rfl) ?_
  intro p e s m args below meth c ls hx hb hml hts hown hK hP hZ hlocks ht hl
  have hl : lv_has ls 4 [(0, .ref (AD 0)), (1, .int (nI k)), (2, .int (y))] := hl
  have S : CallFix p m c cX2_falseAlarms 4 s args wsX2_falseAlarms RX2 := ⟨hx, hb, hml, hown, hts⟩
  refine lv_aload_n hx hb dX2_falseAlarms_0 rfl (lv_at hl 0 rfl) ?_
  refine lv_iload_n hx hb dX2_falseAlarms_1 rfl (lv_at hl 1 rfl) ?_
  refine p_V (As := [.int (nI k)]) (rest := []) S (c_X2_requireLetter l g AD LL EE LN lc ec hlc hec hLL hEE k hk) (cwV 1 hts gX2_falseAlarms_X2_requireLetter rfl rfl rfl (by decide +kernel) ⟨Nat.le_of_ble_eq_true rfl, Nat.le_of_ble_eq_true rfl⟩) hK (va_recv hK.1 hP (ci := 2) (q0 := 0) rfl dk_me) (hP) rfl hl.1 rfl (Nat.le_of_ble_eq_true rfl) dX2_falseAlarms_2 ⟨Nat.le_of_ble_eq_true rfl, Nat.le_of_ble_eq_true rfl⟩ ?_
  refine lv_astore_n (lv' := [(3, .ref (AD (3 + 3 * k))), (0, .ref (AD 0)), (1, .int (nI k)), (2, .int (y))]) hx hb dX2_falseAlarms_5 rfl hl (by decide) rfl (fun ls hl => ?_)
  refine lv_iload_n hx hb dX2_falseAlarms_6 rfl (lv_at hl 3 rfl) ?_
  exact x_S (As := [.int (y)]) (rest := []) S (c_X2_requireWindowLength_x l hlt g y hy) (va_cwS 1 hts gX2_falseAlarms_X2_requireWindowLength rfl rfl rfl (by decide +kernel) ⟨Nat.le_of_ble_eq_true rfl, Nat.le_of_ble_eq_true rfl⟩) hK hZ  (trivial) rfl hl.1 rfl (Nat.le_of_ble_eq_true rfl) dX2_falseAlarms_7 ⟨Nat.le_of_ble_eq_true rfl, Nat.le_of_ble_eq_true rfl⟩ ht hlocks

set_option maxHeartbeats 4000000 in
set_option maxRecDepth 100000 in
/-- firstOf -/
theorem c_X2_firstOf (l : Launch) (g : gT) (AD : Nat → Nat) (LL : Nat → ltT) (EE : Nat → evT) (LN : Nat → Nat) (lc ec : Nat) (hlc : lc ≤ 12) (hec : ec ≤ 24) (hLL : ∀ i, i < 12 → (LL i).2.2 ≤ 40) (hEE : ∀ q, q < ec → (EE q).1 = nI (LN q) ∧ LN q < lc ∧ (EE q).2.2.1 ≤ 40 ∧ (EE q).2.2.2.1 ≤ 8) (k : Nat) (hk : k < lc) (k2 : Nat) (hk2 : k2 < lc) (hn1 : 0 < (LL k2).2.2) : pM g l yX2_firstOf wsX2_firstOf { frames := 7, cells := 0, slots := 0, locals := 103 } [.ref (AD 0), .int (nI k), .int (nI k2)] (fun H => va_P (gD g) vwCl (wsD g AD LL EE lc ec) H) (.int (fsF (fun j => eqR ((LL k).1) j ((LL k2).1) 0 ((LL k2).2.2)) ((LL k).2.2 + 1 - (LL k2).2.2) 0)) := by
  refine pu_ofI (cc := cX2_firstOf) (maxL := 5) (by decide) rfl (Nat.le_of_ble_eq_true rfl) ?_
  intro p e s m args below meth c H ls Q hx hb hml hts hown hK hP hl hret
  have hl : lv_has ls 5 [(0, .ref (AD 0)), (1, .int (nI k)), (2, .int (nI k2))] := hl
  have S : CallFix p m c cX2_firstOf 5 s args wsX2_firstOf RX2 := ⟨hx, hb, hml, hown, hts⟩
  refine lv_aload_n hx hb dX2_firstOf_0 rfl (lv_at hl 0 rfl) ?_
  refine lv_iload_n hx hb dX2_firstOf_1 rfl (lv_at hl 1 rfl) ?_
  refine p_V (As := [.int (nI k)]) (rest := []) S (c_X2_requireLetter l g AD LL EE LN lc ec hlc hec hLL hEE k hk) (cwV 1 hts gX2_firstOf_X2_requireLetter rfl rfl rfl (by decide +kernel) ⟨Nat.le_of_ble_eq_true rfl, Nat.le_of_ble_eq_true rfl⟩) hK (va_recv hK.1 hP (ci := 2) (q0 := 0) rfl dk_me) (hP) rfl hl.1 rfl (Nat.le_of_ble_eq_true rfl) dX2_firstOf_2 ⟨Nat.le_of_ble_eq_true rfl, Nat.le_of_ble_eq_true rfl⟩ ?_
  refine lv_astore_n (lv' := [(3, .ref (AD (3 + 3 * k))), (0, .ref (AD 0)), (1, .int (nI k)), (2, .int (nI k2))]) hx hb dX2_firstOf_5 rfl hl (by decide) rfl (fun ls hl => ?_)
  refine lv_aload_n hx hb dX2_firstOf_6 rfl (lv_at hl 1 rfl) ?_
  refine lv_iload_n hx hb dX2_firstOf_7 rfl (lv_at hl 3 rfl) ?_
  refine p_V (As := [.int (nI k2)]) (rest := []) S (c_X2_requireLetter l g AD LL EE LN lc ec hlc hec hLL hEE k2 hk2) (cwV 1 hts gX2_firstOf_X2_requireLetter rfl rfl rfl (by decide +kernel) ⟨Nat.le_of_ble_eq_true rfl, Nat.le_of_ble_eq_true rfl⟩) hK (va_recv hK.1 hP (ci := 2) (q0 := 0) rfl dk_me) (hP) rfl hl.1 rfl (Nat.le_of_ble_eq_true rfl) dX2_firstOf_8 ⟨Nat.le_of_ble_eq_true rfl, Nat.le_of_ble_eq_true rfl⟩ ?_
  refine lv_astore (lv' := [(4, .ref (AD (3 + 3 * k2))), (3, .ref (AD (3 + 3 * k))), (0, .ref (AD 0)), (1, .int (nI k)), (2, .int (nI k2))]) hx hb dX2_firstOf_11 hl (by decide) rfl (fun ls hl => ?_)
  refine lv_aload hx hb dX2_firstOf_13 (lv_at hl 0 rfl) ?_
  have hL1 := dk_letter hP (i := k2) (by omega)
  refine p_Sv (As := [.ref (AD (3 + 3 * k2))]) (rest := []) S (c_X2_requireSigns l g (AD (3 + 3 * k2)) (AD (4 + 3 * k2)) (AD (5 + 3 * k2)) ((LL k2).1) ((LL k2).2.1) ((LL k2).2.2) (hLL _ (by omega)) hn1) (va_cwS 1 hts gX2_firstOf_X2_requireSigns rfl rfl rfl (by decide +kernel) ⟨Nat.le_of_ble_eq_true rfl, Nat.le_of_ble_eq_true rfl⟩) hK  (hL1) rfl hl.1 rfl (Nat.le_of_ble_eq_true rfl) dX2_firstOf_15 ⟨Nat.le_of_ble_eq_true rfl, Nat.le_of_ble_eq_true rfl⟩ ?_
  refine lv_aload_n hx hb dX2_firstOf_18 rfl (lv_at hl 1 rfl) ?_
  refine lv_aload hx hb dX2_firstOf_19 (lv_at hl 0 rfl) ?_
  have hL2 := dk_letter hP (i := k) (by omega)
  refine p_V (As := [.ref (AD (3 + 3 * k2))]) (rest := []) S (c_X1_firstPlaceOf l g (AD (3 + 3 * k)) (AD (4 + 3 * k)) (AD (5 + 3 * k)) (AD (3 + 3 * k2)) (AD (4 + 3 * k2)) (AD (5 + 3 * k2)) ((LL k).1) ((LL k).2.1) ((LL k2).1) ((LL k2).2.1) ((LL k).2.2) ((LL k2).2.2) (hLL _ (by omega)) (hLL _ (by omega))) (cwV 1 hts gX2_firstOf_X1_firstPlaceOf rfl rfl rfl (by decide +kernel) ⟨Nat.le_of_ble_eq_true rfl, Nat.le_of_ble_eq_true rfl⟩) hK (va_recv hK.1 hL2 (ci := 1) (q0 := 0) rfl rfl) (⟨hL2, hL1⟩) rfl hl.1 rfl (Nat.le_of_ble_eq_true rfl) dX2_firstOf_21 ⟨Nat.le_of_ble_eq_true rfl, Nat.le_of_ble_eq_true rfl⟩ ?_
  exact hret _ _ dX2_firstOf_24

set_option maxHeartbeats 4000000 in
set_option maxRecDepth 100000 in
/-- firstOf_x -/
theorem c_X2_firstOf_x (l : Launch) (hlt : l.stackTraces = false) (g : gT) (AD : Nat → Nat) (LL : Nat → ltT) (EE : Nat → evT) (LN : Nat → Nat) (lc ec : Nat) (hlc : lc ≤ 12) (hec : ec ≤ 24) (hLL : ∀ i, i < 12 → (LL i).2.2 ≤ 40) (hEE : ∀ q, q < ec → (EE q).1 = nI (LN q) ∧ LN q < lc ∧ (EE q).2.2.1 ≤ 40 ∧ (EE q).2.2.2.1 ≤ 8) (x : Int32) (hxb : inB x lc = false) (y : Int32) : xM g l yX2_firstOf wsX2_firstOf { frames := 7, cells := 1, slots := 6, locals := 103 } [.ref (AD 0), .int (x), .int (y)] (fun H => va_P (gD g) vwCl (wsD g AD LL EE lc ec) H) "java/lang/IndexOutOfBoundsException" := by
  refine xr_of (cc := cX2_firstOf) (maxL := 5) (ret := (some .int)) (by decide) rfl (Nat.le_of_ble_eq_true rfl) ?_
  intro p e s m args below meth c ls hx hb hml hts hown hK hP hZ hlocks ht hl
  have hl : lv_has ls 5 [(0, .ref (AD 0)), (1, .int (x)), (2, .int (y))] := hl
  have S : CallFix p m c cX2_firstOf 5 s args wsX2_firstOf RX2 := ⟨hx, hb, hml, hown, hts⟩
  refine lv_aload_n hx hb dX2_firstOf_0 rfl (lv_at hl 0 rfl) ?_
  refine lv_iload_n hx hb dX2_firstOf_1 rfl (lv_at hl 1 rfl) ?_
  exact x_V (As := [.int (x)]) (rest := []) S (c_X2_requireLetter_x l hlt g AD LL EE LN lc ec hlc hec hLL hEE x hxb) (cwV 1 hts gX2_firstOf_X2_requireLetter rfl rfl rfl (by decide +kernel) ⟨Nat.le_of_ble_eq_true rfl, Nat.le_of_ble_eq_true rfl⟩) hK hZ (va_recv hK.1 hP (ci := 2) (q0 := 0) rfl dk_me) (hP) rfl hl.1 rfl (Nat.le_of_ble_eq_true rfl) dX2_firstOf_2 ⟨Nat.le_of_ble_eq_true rfl, Nat.le_of_ble_eq_true rfl⟩ ht hlocks

set_option maxHeartbeats 4000000 in
set_option maxRecDepth 100000 in
/-- firstOf_y -/
theorem c_X2_firstOf_y (l : Launch) (hlt : l.stackTraces = false) (g : gT) (AD : Nat → Nat) (LL : Nat → ltT) (EE : Nat → evT) (LN : Nat → Nat) (lc ec : Nat) (hlc : lc ≤ 12) (hec : ec ≤ 24) (hLL : ∀ i, i < 12 → (LL i).2.2 ≤ 40) (hEE : ∀ q, q < ec → (EE q).1 = nI (LN q) ∧ LN q < lc ∧ (EE q).2.2.1 ≤ 40 ∧ (EE q).2.2.2.1 ≤ 8) (k : Nat) (hk : k < lc) (y : Int32) (hy : inB y lc = false) : xM g l yX2_firstOf wsX2_firstOf { frames := 7, cells := 1, slots := 6, locals := 103 } [.ref (AD 0), .int (nI k), .int (y)] (fun H => va_P (gD g) vwCl (wsD g AD LL EE lc ec) H) "java/lang/IndexOutOfBoundsException" := by
  refine xr_of (cc := cX2_firstOf) (maxL := 5) (ret := (some .int)) (by decide) rfl (Nat.le_of_ble_eq_true rfl) ?_
  intro p e s m args below meth c ls hx hb hml hts hown hK hP hZ hlocks ht hl
  have hl : lv_has ls 5 [(0, .ref (AD 0)), (1, .int (nI k)), (2, .int (y))] := hl
  have S : CallFix p m c cX2_firstOf 5 s args wsX2_firstOf RX2 := ⟨hx, hb, hml, hown, hts⟩
  refine lv_aload_n hx hb dX2_firstOf_0 rfl (lv_at hl 0 rfl) ?_
  refine lv_iload_n hx hb dX2_firstOf_1 rfl (lv_at hl 1 rfl) ?_
  refine p_V (As := [.int (nI k)]) (rest := []) S (c_X2_requireLetter l g AD LL EE LN lc ec hlc hec hLL hEE k hk) (cwV 1 hts gX2_firstOf_X2_requireLetter rfl rfl rfl (by decide +kernel) ⟨Nat.le_of_ble_eq_true rfl, Nat.le_of_ble_eq_true rfl⟩) hK (va_recv hK.1 hP (ci := 2) (q0 := 0) rfl dk_me) (hP) rfl hl.1 rfl (Nat.le_of_ble_eq_true rfl) dX2_firstOf_2 ⟨Nat.le_of_ble_eq_true rfl, Nat.le_of_ble_eq_true rfl⟩ ?_
  refine lv_astore_n (lv' := [(3, .ref (AD (3 + 3 * k))), (0, .ref (AD 0)), (1, .int (nI k)), (2, .int (y))]) hx hb dX2_firstOf_5 rfl hl (by decide) rfl (fun ls hl => ?_)
  refine lv_aload_n hx hb dX2_firstOf_6 rfl (lv_at hl 1 rfl) ?_
  refine lv_iload_n hx hb dX2_firstOf_7 rfl (lv_at hl 3 rfl) ?_
  exact x_V (As := [.int (y)]) (rest := []) S (c_X2_requireLetter_x l hlt g AD LL EE LN lc ec hlc hec hLL hEE y hy) (cwV 1 hts gX2_firstOf_X2_requireLetter rfl rfl rfl (by decide +kernel) ⟨Nat.le_of_ble_eq_true rfl, Nat.le_of_ble_eq_true rfl⟩) hK hZ (va_recv hK.1 hP (ci := 2) (q0 := 0) rfl dk_me) (hP) rfl hl.1 rfl (Nat.le_of_ble_eq_true rfl) dX2_firstOf_8 ⟨Nat.le_of_ble_eq_true rfl, Nat.le_of_ble_eq_true rfl⟩ ht hlocks

set_option maxHeartbeats 4000000 in
set_option maxRecDepth 100000 in
/-- firstOf_s -/
theorem c_X2_firstOf_s (l : Launch) (hlt : l.stackTraces = false) (g : gT) (AD : Nat → Nat) (LL : Nat → ltT) (EE : Nat → evT) (LN : Nat → Nat) (lc ec : Nat) (hlc : lc ≤ 12) (hec : ec ≤ 24) (hLL : ∀ i, i < 12 → (LL i).2.2 ≤ 40) (hEE : ∀ q, q < ec → (EE q).1 = nI (LN q) ∧ LN q < lc ∧ (EE q).2.2.1 ≤ 40 ∧ (EE q).2.2.2.1 ≤ 8) (k : Nat) (hk : k < lc) (k2 : Nat) (hk2 : k2 < lc) (hn1 : (LL k2).2.2 = 0) : xM g l yX2_firstOf wsX2_firstOf { frames := 7, cells := 1, slots := 6, locals := 103 } [.ref (AD 0), .int (nI k), .int (nI k2)] (fun H => va_P (gD g) vwCl (wsD g AD LL EE lc ec) H) "java/lang/IllegalStateException" := by
  refine xr_of (cc := cX2_firstOf) (maxL := 5) (ret := (some .int)) (by decide) rfl (Nat.le_of_ble_eq_true rfl) ?_
  intro p e s m args below meth c ls hx hb hml hts hown hK hP hZ hlocks ht hl
  have hl : lv_has ls 5 [(0, .ref (AD 0)), (1, .int (nI k)), (2, .int (nI k2))] := hl
  have S : CallFix p m c cX2_firstOf 5 s args wsX2_firstOf RX2 := ⟨hx, hb, hml, hown, hts⟩
  refine lv_aload_n hx hb dX2_firstOf_0 rfl (lv_at hl 0 rfl) ?_
  refine lv_iload_n hx hb dX2_firstOf_1 rfl (lv_at hl 1 rfl) ?_
  refine p_V (As := [.int (nI k)]) (rest := []) S (c_X2_requireLetter l g AD LL EE LN lc ec hlc hec hLL hEE k hk) (cwV 1 hts gX2_firstOf_X2_requireLetter rfl rfl rfl (by decide +kernel) ⟨Nat.le_of_ble_eq_true rfl, Nat.le_of_ble_eq_true rfl⟩) hK (va_recv hK.1 hP (ci := 2) (q0 := 0) rfl dk_me) (hP) rfl hl.1 rfl (Nat.le_of_ble_eq_true rfl) dX2_firstOf_2 ⟨Nat.le_of_ble_eq_true rfl, Nat.le_of_ble_eq_true rfl⟩ ?_
  refine lv_astore_n (lv' := [(3, .ref (AD (3 + 3 * k))), (0, .ref (AD 0)), (1, .int (nI k)), (2, .int (nI k2))]) hx hb dX2_firstOf_5 rfl hl (by decide) rfl (fun ls hl => ?_)
  refine lv_aload_n hx hb dX2_firstOf_6 rfl (lv_at hl 1 rfl) ?_
  refine lv_iload_n hx hb dX2_firstOf_7 rfl (lv_at hl 3 rfl) ?_
  refine p_V (As := [.int (nI k2)]) (rest := []) S (c_X2_requireLetter l g AD LL EE LN lc ec hlc hec hLL hEE k2 hk2) (cwV 1 hts gX2_firstOf_X2_requireLetter rfl rfl rfl (by decide +kernel) ⟨Nat.le_of_ble_eq_true rfl, Nat.le_of_ble_eq_true rfl⟩) hK (va_recv hK.1 hP (ci := 2) (q0 := 0) rfl dk_me) (hP) rfl hl.1 rfl (Nat.le_of_ble_eq_true rfl) dX2_firstOf_8 ⟨Nat.le_of_ble_eq_true rfl, Nat.le_of_ble_eq_true rfl⟩ ?_
  refine lv_astore (lv' := [(4, .ref (AD (3 + 3 * k2))), (3, .ref (AD (3 + 3 * k))), (0, .ref (AD 0)), (1, .int (nI k)), (2, .int (nI k2))]) hx hb dX2_firstOf_11 hl (by decide) rfl (fun ls hl => ?_)
  refine lv_aload hx hb dX2_firstOf_13 (lv_at hl 0 rfl) ?_
  have hL1 := dk_letter hP (i := k2) (by omega)
  exact x_S (As := [.ref (AD (3 + 3 * k2))]) (rest := []) S (c_X2_requireSigns_x l hlt g (AD (3 + 3 * k2)) (AD (4 + 3 * k2)) (AD (5 + 3 * k2)) ((LL k2).1) ((LL k2).2.1) ((LL k2).2.2) (hLL _ (by omega)) hn1) (va_cwS 1 hts gX2_firstOf_X2_requireSigns rfl rfl rfl (by decide +kernel) ⟨Nat.le_of_ble_eq_true rfl, Nat.le_of_ble_eq_true rfl⟩) hK hZ  (hL1) rfl hl.1 rfl (Nat.le_of_ble_eq_true rfl) dX2_firstOf_15 ⟨Nat.le_of_ble_eq_true rfl, Nat.le_of_ble_eq_true rfl⟩ ht hlocks

set_option maxHeartbeats 4000000 in
set_option maxRecDepth 100000 in
/-- doubles -/
theorem c_X2_doubles (l : Launch) (g : gT) (AD : Nat → Nat) (LL : Nat → ltT) (EE : Nat → evT) (LN : Nat → Nat) (lc ec : Nat) (hlc : lc ≤ 12) (hec : ec ≤ 24) (hLL : ∀ i, i < 12 → (LL i).2.2 ≤ 40) (hEE : ∀ q, q < ec → (EE q).1 = nI (LN q) ∧ LN q < lc ∧ (EE q).2.2.1 ≤ 40 ∧ (EE q).2.2.2.1 ≤ 8) : pM g l yX2_doubles wsX2_doubles { frames := 2, cells := 0, slots := 0, locals := 46 } [.ref (AD 0)] (fun H => va_P (gD g) vwCl (wsD g AD LL EE lc ec) H) (.int (prC (dbD LL) lc lc)) := by
  refine pu_ofI (cc := cX2_doubles) (maxL := 5) (by decide) rfl (Nat.le_of_ble_eq_true rfl) ?_
  intro p e s m args below meth c H ls Q hx hb hml hts hown hK hP hl hret
  have hl : lv_has ls 5 [(0, .ref (AD 0))] := hl
  have S : CallFix p m c cX2_doubles 5 s args wsX2_doubles RX2 := ⟨hx, hb, hml, hown, hts⟩
  have iX2 : ∀ w ∈ u_ws RX2 TX2 4, w ∈ wsX2_doubles := by decide +kernel
  have f11 := hts (.fieldLink RX2 11 "LetterSeals" "letterRow" "[LLetterSeals$Letter;") (by decide +kernel)
  have f26 := hts (.fieldLink RX2 26 "LetterSeals" "letterCount" "I") (by decide +kernel)
  refine lv_iconst (v := 0) hx hb dX2_doubles_0 (by decide +kernel) ?_
  refine lv_istore_n (lv' := [(1, .int (0)), (0, .ref (AD 0))]) hx hb dX2_doubles_1 rfl hl (by decide) rfl (fun ls hl => ?_)
  refine lv_iconst (v := nI (0)) hx hb dX2_doubles_2 (by decide +kernel) ?_
  refine lv_istore_n (lv' := [(2, .int (nI (0))), (1, .int (0)), (0, .ref (AD 0))]) hx hb dX2_doubles_3 rfl hl (by decide) rfl (fun ls hl => ?_)
  have L4 : ∀ (k1 i : Nat) (ls : Array Slot), lc - i < k1 → i ≤ lc → lv_has ls 5 [(2, .int (nI i)), (1, .int (prC (dbD LL) lc i)), (0, .ref (AD 0))] → W p l e { frames := 2, cells := 0, slots := 0, locals := 46 } s m args below meth c H [] 0 0 Q (F0 m 4 ls []) := by
    intro k1
    induction k1 with
    | zero => intro i ls hFu; exact absurd hFu (Nat.not_lt_zero _)
    | succ k1 ih1 =>
      intro i ls hFu hLe hl
      refine lv_iload_n hx hb dX2_doubles_4 rfl (lv_at hl 0 rfl) ?_
      refine lv_aload_n hx hb dX2_doubles_5 rfl (lv_at hl 2 rfl) ?_
      refine va_get (D := gD g) (ci := 2) (v := .int (nI (lc))) (C := RX2) (T := TX2) (N := 4) hx hb hts iX2 hown hK.1 hP 0 dk_me rfl 2 (by decide) f26 (fun _ h9 => h9) rfl dX2_doubles_6 ?_
      refine br_ge (a := i) (b := lc) (tgt := 84) hx hb (by omega) (by omega) dX2_doubles_9 (by decide) (fun c9 => ?_) (fun c9 => ?_)
      · have e_i : i = lc := by omega
        rw [e_i] at hl
        refine lv_iload_n hx hb dX2_doubles_84 rfl (lv_at hl 1 rfl) ?_
        exact hret _ _ dX2_doubles_85
      · refine lv_aload_n hx hb dX2_doubles_12 rfl (lv_at hl 2 rfl) ?_
        refine va_get (D := gD g) (ci := 2) (v := .ref (AD 1)) (C := RX2) (T := TX2) (N := 4) hx hb hts iX2 hown hK.1 hP 0 dk_me rfl 0 (by decide) f11 (fun _ h9 => h9) rfl dX2_doubles_13 ?_
        refine lv_iload_n hx hb dX2_doubles_16 rfl (lv_at hl 0 rfl) ?_
        refine ld_Q (C := "LetterSeals$Letter") (k := i) (n := 12) (f := fun i => some (AD (3 + 3 * i))) (r := AD (3 + 3 * i)) hx hb hK.1 hP 1 1 dk_lr rfl (by omega) (by decide) rfl dX2_doubles_17 ?_
        have hL2 := dk_letter hP (i := i) (by omega)
        refine p_V (As := []) (rest := []) S (c_X1_signDigest l g (AD (3 + 3 * i)) (AD (4 + 3 * i)) (AD (5 + 3 * i)) ((LL i).1) ((LL i).2.1) ((LL i).2.2) (hLL _ (by omega))) (cwV 0 hts gX2_doubles_X1_signDigest rfl rfl rfl (by decide +kernel) ⟨Nat.le_of_ble_eq_true rfl, Nat.le_of_ble_eq_true rfl⟩) hK (va_recv hK.1 hL2 (ci := 1) (q0 := 0) rfl rfl) (hL2) rfl hl.1 rfl (Nat.le_of_ble_eq_true rfl) dX2_doubles_18 ⟨Nat.le_of_ble_eq_true rfl, Nat.le_of_ble_eq_true rfl⟩ ?_
        refine lv_istore_n (lv' := [(3, .int (dgF ((LL i).1) ((LL i).2.2))), (2, .int (nI i)), (1, .int (prC (dbD LL) lc i)), (0, .ref (AD 0))]) hx hb dX2_doubles_21 rfl hl (by decide) rfl (fun ls hl => ?_)
        refine lv_iload_n hx hb dX2_doubles_22 rfl (lv_at hl 1 rfl) ?_
        refine lv_iconst (v := nI (1)) hx hb dX2_doubles_23 (by decide +kernel) ?_
        refine lv_iadd hx hb dX2_doubles_24 ?_
        refine lv_toI (z := nI (i + 1)) (nI_add _ _) ?_
        refine lv_istore (lv' := [(4, .int (nI (i + 1))), (3, .int (dgF ((LL i).1) ((LL i).2.2))), (2, .int (nI i)), (1, .int (prC (dbD LL) lc i)), (0, .ref (AD 0))]) hx hb dX2_doubles_25 hl (by decide) rfl (fun ls hl => ?_)
        have L27 : ∀ (k3 j : Nat) (ls : Array Slot), (lc - (i + 1)) - j < k3 → j ≤ (lc - (i + 1)) → lv_has ls 5 [(4, .int (nI (i + 1 + j))), (1, .int (acF (fun u => (dbD LL) i (i + 1 + u)) (prC (dbD LL) lc i) j)), (3, .int (dgF ((LL i).1) ((LL i).2.2))), (2, .int (nI i)), (0, .ref (AD 0))] → W p l e { frames := 2, cells := 0, slots := 0, locals := 46 } s m args below meth c H [] 0 0 Q (F0 m 27 ls []) := by
          intro k3
          induction k3 with
          | zero => intro j ls hFu; exact absurd hFu (Nat.not_lt_zero _)
          | succ k3 ih3 =>
            intro j ls hFu hLe hl
            refine lv_iload hx hb dX2_doubles_27 (lv_at hl 0 rfl) ?_
            refine lv_aload_n hx hb dX2_doubles_29 rfl (lv_at hl 4 rfl) ?_
            refine va_get (D := gD g) (ci := 2) (v := .int (nI (lc))) (C := RX2) (T := TX2) (N := 4) hx hb hts iX2 hown hK.1 hP 0 dk_me rfl 2 (by decide) f26 (fun _ h9 => h9) rfl dX2_doubles_30 ?_
            refine br_ge (a := i + 1 + j) (b := lc) (tgt := 78) hx hb (by omega) (by omega) dX2_doubles_33 (by decide) (fun c33 => ?_) (fun c33 => ?_)
            · have e_j : j = (lc - (i + 1)) := by omega
              rw [e_j] at hl
              refine lv_iinc (v := nI (i + 1)) (lv' := [(2, .int (nI (i + 1))), (4, .int (nI (i + 1 + (lc - (i + 1))))), (1, .int (acF (fun u => (dbD LL) i (i + 1 + u)) (prC (dbD LL) lc i) (lc - (i + 1)))), (3, .int (dgF ((LL i).1) ((LL i).2.2))), (0, .ref (AD 0))]) hx hb dX2_doubles_78 hl (k := 3) rfl (nI_1 _) (by decide) rfl (fun ls hl => ?_)
              refine lv_goto (tgt := 4) hx hb dX2_doubles_81 (by decide) ?_
              exact ih1 (i + 1) _ (by omega) (by omega) (lv_sub hl [0, 2, 4] rfl)
            · refine lv_aload_n hx hb dX2_doubles_36 rfl (lv_at hl 4 rfl) ?_
              refine va_get (D := gD g) (ci := 2) (v := .ref (AD 1)) (C := RX2) (T := TX2) (N := 4) hx hb hts iX2 hown hK.1 hP 0 dk_me rfl 0 (by decide) f11 (fun _ h9 => h9) rfl dX2_doubles_37 ?_
              refine lv_iload hx hb dX2_doubles_40 (lv_at hl 0 rfl) ?_
              refine ld_Q (C := "LetterSeals$Letter") (k := i + 1 + j) (n := 12) (f := fun i => some (AD (3 + 3 * i))) (r := AD (3 + 3 * (i + 1 + j))) hx hb hK.1 hP 1 1 dk_lr rfl (by omega) (by decide) rfl dX2_doubles_42 ?_
              have hL4 := dk_letter hP (i := i + 1 + j) (by omega)
              refine p_V (As := []) (rest := []) S (c_X1_signDigest l g (AD (3 + 3 * (i + 1 + j))) (AD (4 + 3 * (i + 1 + j))) (AD (5 + 3 * (i + 1 + j))) ((LL (i + 1 + j)).1) ((LL (i + 1 + j)).2.1) ((LL (i + 1 + j)).2.2) (hLL _ (by omega))) (cwV 0 hts gX2_doubles_X1_signDigest rfl rfl rfl (by decide +kernel) ⟨Nat.le_of_ble_eq_true rfl, Nat.le_of_ble_eq_true rfl⟩) hK (va_recv hK.1 hL4 (ci := 1) (q0 := 0) rfl rfl) (hL4) rfl hl.1 rfl (Nat.le_of_ble_eq_true rfl) dX2_doubles_43 ⟨Nat.le_of_ble_eq_true rfl, Nat.le_of_ble_eq_true rfl⟩ ?_
              refine lv_iload_n hx hb dX2_doubles_46 rfl (lv_at hl 2 rfl) ?_
              refine lv_icmp_ne (tgt := 72) hx hb dX2_doubles_47 (by decide) (fun c47 => ?_) (fun c47 => ?_)
              · have hl : lv_has ls 5 [(4, .int (nI (i + 1 + j))), (1, .int (acF (fun u => (dbD LL) i (i + 1 + u)) (prC (dbD LL) lc i) (j + 1))), (3, .int (dgF ((LL i).1) ((LL i).2.2))), (2, .int (nI i)), (0, .ref (AD 0))] := by rw [acF, if_neg (dbD_no (by first | exact Or.inl c47 | exact Or.inr c66))]; exact hl
                refine lv_iinc (v := nI (i + 1 + j + 1)) (lv' := [(4, .int (nI (i + 1 + j + 1))), (1, .int (acF (fun u => (dbD LL) i (i + 1 + u)) (prC (dbD LL) lc i) (j + 1))), (3, .int (dgF ((LL i).1) ((LL i).2.2))), (2, .int (nI i)), (0, .ref (AD 0))]) hx hb dX2_doubles_72 hl (k := 0) rfl (nI_1 _) (by decide) rfl (fun ls hl => ?_)
                refine lv_goto (tgt := 27) hx hb dX2_doubles_75 (by decide) ?_
                exact ih3 (j + 1) _ (by omega) (by omega) (lv_sub hl [0, 1, 2, 3, 4] rfl)
              · refine lv_aload_n hx hb dX2_doubles_50 rfl (lv_at hl 4 rfl) ?_
                refine va_get (D := gD g) (ci := 2) (v := .ref (AD 1)) (C := RX2) (T := TX2) (N := 4) hx hb hts iX2 hown hK.1 hP 0 dk_me rfl 0 (by decide) f11 (fun _ h9 => h9) rfl dX2_doubles_51 ?_
                refine lv_iload_n hx hb dX2_doubles_54 rfl (lv_at hl 3 rfl) ?_
                refine ld_Q (C := "LetterSeals$Letter") (k := i) (n := 12) (f := fun i => some (AD (3 + 3 * i))) (r := AD (3 + 3 * i)) hx hb hK.1 hP 1 1 dk_lr rfl (by omega) (by decide) rfl dX2_doubles_55 ?_
                refine lv_aload_n hx hb dX2_doubles_56 rfl (lv_at hl 4 rfl) ?_
                refine va_get (D := gD g) (ci := 2) (v := .ref (AD 1)) (C := RX2) (T := TX2) (N := 4) hx hb hts iX2 hown hK.1 hP 0 dk_me rfl 0 (by decide) f11 (fun _ h9 => h9) rfl dX2_doubles_57 ?_
                refine lv_iload hx hb dX2_doubles_60 (lv_at hl 0 rfl) ?_
                refine ld_Q (C := "LetterSeals$Letter") (k := i + 1 + j) (n := 12) (f := fun i => some (AD (3 + 3 * i))) (r := AD (3 + 3 * (i + 1 + j))) hx hb hK.1 hP 1 1 dk_lr rfl (by omega) (by decide) rfl dX2_doubles_62 ?_
                refine p_V (As := [.ref (AD (3 + 3 * (i + 1 + j)))]) (rest := []) S (c_X1_hasSameSigns l g (AD (3 + 3 * i)) (AD (4 + 3 * i)) (AD (5 + 3 * i)) (AD (3 + 3 * (i + 1 + j))) (AD (4 + 3 * (i + 1 + j))) (AD (5 + 3 * (i + 1 + j))) ((LL i).1) ((LL i).2.1) ((LL (i + 1 + j)).1) ((LL (i + 1 + j)).2.1) ((LL i).2.2) ((LL (i + 1 + j)).2.2) (hLL _ (by omega)) (hLL _ (by omega))) (cwV 1 hts gX2_doubles_X1_hasSameSigns rfl rfl rfl (by decide +kernel) ⟨Nat.le_of_ble_eq_true rfl, Nat.le_of_ble_eq_true rfl⟩) hK (va_recv hK.1 hL2 (ci := 1) (q0 := 0) rfl rfl) (⟨hL2, hL4⟩) rfl hl.1 rfl (Nat.le_of_ble_eq_true rfl) dX2_doubles_63 ⟨Nat.le_of_ble_eq_true rfl, Nat.le_of_ble_eq_true rfl⟩ ?_
                refine br_neB (tgt := 72) hx hb dX2_doubles_66 (by decide) (fun c66 => ?_) (fun c66 => ?_)
                · have hl : lv_has ls 5 [(4, .int (nI (i + 1 + j))), (1, .int (acF (fun u => (dbD LL) i (i + 1 + u)) (prC (dbD LL) lc i) (j + 1))), (3, .int (dgF ((LL i).1) ((LL i).2.2))), (2, .int (nI i)), (0, .ref (AD 0))] := by rw [acF, if_neg (dbD_no (by first | exact Or.inl c47 | exact Or.inr c66))]; exact hl
                  refine lv_iinc (v := nI (i + 1 + j + 1)) (lv' := [(4, .int (nI (i + 1 + j + 1))), (1, .int (acF (fun u => (dbD LL) i (i + 1 + u)) (prC (dbD LL) lc i) (j + 1))), (3, .int (dgF ((LL i).1) ((LL i).2.2))), (2, .int (nI i)), (0, .ref (AD 0))]) hx hb dX2_doubles_72 hl (k := 0) rfl (nI_1 _) (by decide) rfl (fun ls hl => ?_)
                  refine lv_goto (tgt := 27) hx hb dX2_doubles_75 (by decide) ?_
                  exact ih3 (j + 1) _ (by omega) (by omega) (lv_sub hl [0, 1, 2, 3, 4] rfl)
                · refine lv_iinc (v := acF (fun u => (dbD LL) i (i + 1 + u)) (prC (dbD LL) lc i) (j + 1)) (lv' := [(1, .int (acF (fun u => (dbD LL) i (i + 1 + u)) (prC (dbD LL) lc i) (j + 1))), (4, .int (nI (i + 1 + j))), (3, .int (dgF ((LL i).1) ((LL i).2.2))), (2, .int (nI i)), (0, .ref (AD 0))]) hx hb dX2_doubles_69 hl (k := 1) rfl (by rw [acF, if_pos (dbD_yes c47 c66)]; rfl) (by decide) rfl (fun ls hl => ?_)
                  refine lv_iinc (v := nI (i + 1 + j + 1)) (lv' := [(4, .int (nI (i + 1 + j + 1))), (1, .int (acF (fun u => (dbD LL) i (i + 1 + u)) (prC (dbD LL) lc i) (j + 1))), (3, .int (dgF ((LL i).1) ((LL i).2.2))), (2, .int (nI i)), (0, .ref (AD 0))]) hx hb dX2_doubles_72 hl (k := 1) rfl (nI_1 _) (by decide) rfl (fun ls hl => ?_)
                  refine lv_goto (tgt := 27) hx hb dX2_doubles_75 (by decide) ?_
                  exact ih3 (j + 1) _ (by omega) (by omega) (lv_sub hl [0, 1, 2, 3, 4] rfl)
        exact L27 ((lc - (i + 1)) + 1) (0) _ (by omega) (by omega) (lv_sub hl [0, 3, 1, 2, 4] rfl)
  exact L4 (lc + 1) (0) _ (by omega) (by omega) (lv_sub hl [0, 1, 2] rfl)

set_option maxHeartbeats 4000000 in
set_option maxRecDepth 100000 in
/-- letterIn -/
theorem c_X2_letterIn (l : Launch) (g : gT) (AD : Nat → Nat) (LL : Nat → ltT) (EE : Nat → evT) (LN : Nat → Nat) (lc ec : Nat) (hlc : lc ≤ 12) (hec : ec ≤ 24) (hLL : ∀ i, i < 12 → (LL i).2.2 ≤ 40) (hEE : ∀ q, q < ec → (EE q).1 = nI (LN q) ∧ LN q < lc ∧ (EE q).2.2.1 ≤ 40 ∧ (EE q).2.2.2.1 ≤ 8) (q : Nat) (hq : q < ec) : pM g l yX2_letterIn wsX2_letterIn { frames := 7, cells := 0, slots := 0, locals := 103 } [.ref (AD 0), .int (nI q)] (fun H => va_P (gD g) vwCl (wsD g AD LL EE lc ec) H) (.int (nI (LN q))) := by
  refine pu_ofI (cc := cX2_letterIn) (maxL := 2) (by decide) rfl (Nat.le_of_ble_eq_true rfl) ?_
  intro p e s m args below meth c H ls Q hx hb hml hts hown hK hP hl hret
  have hl : lv_has ls 2 [(0, .ref (AD 0)), (1, .int (nI q))] := hl
  have S : CallFix p m c cX2_letterIn 2 s args wsX2_letterIn RX2 := ⟨hx, hb, hml, hown, hts⟩
  have iX0 : ∀ w ∈ u_ws RX0 TX0 8, w ∈ wsX2_letterIn := by decide +kernel
  have n133 : (Cond.fieldLinkNest RX2 133 "LetterSeals$Envelope" "letterNumber" "I" "LetterSeals").before args s = true := va_Nw.use rfl (hK.2.1 ("LetterSeals", 133, "LetterSeals$Envelope", "letterNumber", "I") (List.mem_of_getElem? (i := 4) rfl))
  refine lv_aload_n hx hb dX2_letterIn_0 rfl (lv_at hl 0 rfl) ?_
  refine lv_iload_n hx hb dX2_letterIn_1 rfl (lv_at hl 1 rfl) ?_
  refine p_V (As := [.int (nI q)]) (rest := []) S (c_X2_requireEnvelope l g AD LL EE LN lc ec hlc hec hLL hEE q hq) (cwV 1 hts gX2_letterIn_X2_requireEnvelope rfl rfl rfl (by decide +kernel) ⟨Nat.le_of_ble_eq_true rfl, Nat.le_of_ble_eq_true rfl⟩) hK (va_recv hK.1 hP (ci := 2) (q0 := 0) rfl dk_me) (hP) rfl hl.1 rfl (Nat.le_of_ble_eq_true rfl) dX2_letterIn_2 ⟨Nat.le_of_ble_eq_true rfl, Nat.le_of_ble_eq_true rfl⟩ ?_
  have hE1 := dk_env hP (q := q) (by omega)
  refine va_getN (D := gD g) (ci := 0) (v := .int ((EE q).1)) (C := RX0) (T := TX0) (N := 8) hx hb hts iX0 hown hK.1 hE1 0 rfl rfl 1 (by decide) n133 (fun _ h9 => h9) rfl dX2_letterIn_5 ?_
  have hln := (hEE q hq).2.1
  refine lv_toI (z := nI (LN q)) ((hEE q hq).1) ?_
  exact hret _ _ dX2_letterIn_8

set_option maxHeartbeats 4000000 in
set_option maxRecDepth 100000 in
/-- letterIn_x -/
theorem c_X2_letterIn_x (l : Launch) (hlt : l.stackTraces = false) (g : gT) (AD : Nat → Nat) (LL : Nat → ltT) (EE : Nat → evT) (LN : Nat → Nat) (lc ec : Nat) (hlc : lc ≤ 12) (hec : ec ≤ 24) (hLL : ∀ i, i < 12 → (LL i).2.2 ≤ 40) (hEE : ∀ q, q < ec → (EE q).1 = nI (LN q) ∧ LN q < lc ∧ (EE q).2.2.1 ≤ 40 ∧ (EE q).2.2.2.1 ≤ 8) (x : Int32) (hxb : inB x ec = false) : xM g l yX2_letterIn wsX2_letterIn { frames := 7, cells := 1, slots := 6, locals := 103 } [.ref (AD 0), .int (x)] (fun H => va_P (gD g) vwCl (wsD g AD LL EE lc ec) H) "java/lang/IndexOutOfBoundsException" := by
  refine xr_of (cc := cX2_letterIn) (maxL := 2) (ret := (some .int)) (by decide) rfl (Nat.le_of_ble_eq_true rfl) ?_
  intro p e s m args below meth c ls hx hb hml hts hown hK hP hZ hlocks ht hl
  have hl : lv_has ls 2 [(0, .ref (AD 0)), (1, .int (x))] := hl
  have S : CallFix p m c cX2_letterIn 2 s args wsX2_letterIn RX2 := ⟨hx, hb, hml, hown, hts⟩
  refine lv_aload_n hx hb dX2_letterIn_0 rfl (lv_at hl 0 rfl) ?_
  refine lv_iload_n hx hb dX2_letterIn_1 rfl (lv_at hl 1 rfl) ?_
  exact x_V (As := [.int (x)]) (rest := []) S (c_X2_requireEnvelope_x l hlt g AD LL EE LN lc ec hlc hec hLL hEE x hxb) (cwV 1 hts gX2_letterIn_X2_requireEnvelope rfl rfl rfl (by decide +kernel) ⟨Nat.le_of_ble_eq_true rfl, Nat.le_of_ble_eq_true rfl⟩) hK hZ (va_recv hK.1 hP (ci := 2) (q0 := 0) rfl dk_me) (hP) rfl hl.1 rfl (Nat.le_of_ble_eq_true rfl) dX2_letterIn_2 ⟨Nat.le_of_ble_eq_true rfl, Nat.le_of_ble_eq_true rfl⟩ ht hlocks

set_option maxHeartbeats 4000000 in
set_option maxRecDepth 100000 in
/-- digestIn -/
theorem c_X2_digestIn (l : Launch) (g : gT) (AD : Nat → Nat) (LL : Nat → ltT) (EE : Nat → evT) (LN : Nat → Nat) (lc ec : Nat) (hlc : lc ≤ 12) (hec : ec ≤ 24) (hLL : ∀ i, i < 12 → (LL i).2.2 ≤ 40) (hEE : ∀ q, q < ec → (EE q).1 = nI (LN q) ∧ LN q < lc ∧ (EE q).2.2.1 ≤ 40 ∧ (EE q).2.2.2.1 ≤ 8) (q : Nat) (hq : q < ec) : pM g l yX2_digestIn wsX2_digestIn { frames := 7, cells := 0, slots := 0, locals := 103 } [.ref (AD 0), .int (nI q)] (fun H => va_P (gD g) vwCl (wsD g AD LL EE lc ec) H) (.int ((EE q).2.1)) := by
  refine pu_ofI (cc := cX2_digestIn) (maxL := 2) (by decide) rfl (Nat.le_of_ble_eq_true rfl) ?_
  intro p e s m args below meth c H ls Q hx hb hml hts hown hK hP hl hret
  have hl : lv_has ls 2 [(0, .ref (AD 0)), (1, .int (nI q))] := hl
  have S : CallFix p m c cX2_digestIn 2 s args wsX2_digestIn RX2 := ⟨hx, hb, hml, hown, hts⟩
  have iX0 : ∀ w ∈ u_ws RX0 TX0 8, w ∈ wsX2_digestIn := by decide +kernel
  have n136 : (Cond.fieldLinkNest RX2 136 "LetterSeals$Envelope" "digest" "I" "LetterSeals").before args s = true := va_Nw.use rfl (hK.2.1 ("LetterSeals", 136, "LetterSeals$Envelope", "digest", "I") (List.mem_of_getElem? (i := 5) rfl))
  refine lv_aload_n hx hb dX2_digestIn_0 rfl (lv_at hl 0 rfl) ?_
  refine lv_iload_n hx hb dX2_digestIn_1 rfl (lv_at hl 1 rfl) ?_
  refine p_V (As := [.int (nI q)]) (rest := []) S (c_X2_requireEnvelope l g AD LL EE LN lc ec hlc hec hLL hEE q hq) (cwV 1 hts gX2_digestIn_X2_requireEnvelope rfl rfl rfl (by decide +kernel) ⟨Nat.le_of_ble_eq_true rfl, Nat.le_of_ble_eq_true rfl⟩) hK (va_recv hK.1 hP (ci := 2) (q0 := 0) rfl dk_me) (hP) rfl hl.1 rfl (Nat.le_of_ble_eq_true rfl) dX2_digestIn_2 ⟨Nat.le_of_ble_eq_true rfl, Nat.le_of_ble_eq_true rfl⟩ ?_
  have hE1 := dk_env hP (q := q) (by omega)
  refine va_getN (D := gD g) (ci := 0) (v := .int ((EE q).2.1)) (C := RX0) (T := TX0) (N := 8) hx hb hts iX0 hown hK.1 hE1 0 rfl rfl 2 (by decide) n136 (fun _ h9 => h9) rfl dX2_digestIn_5 ?_
  exact hret _ _ dX2_digestIn_8

set_option maxHeartbeats 4000000 in
set_option maxRecDepth 100000 in
/-- digestIn_x -/
theorem c_X2_digestIn_x (l : Launch) (hlt : l.stackTraces = false) (g : gT) (AD : Nat → Nat) (LL : Nat → ltT) (EE : Nat → evT) (LN : Nat → Nat) (lc ec : Nat) (hlc : lc ≤ 12) (hec : ec ≤ 24) (hLL : ∀ i, i < 12 → (LL i).2.2 ≤ 40) (hEE : ∀ q, q < ec → (EE q).1 = nI (LN q) ∧ LN q < lc ∧ (EE q).2.2.1 ≤ 40 ∧ (EE q).2.2.2.1 ≤ 8) (x : Int32) (hxb : inB x ec = false) : xM g l yX2_digestIn wsX2_digestIn { frames := 7, cells := 1, slots := 6, locals := 103 } [.ref (AD 0), .int (x)] (fun H => va_P (gD g) vwCl (wsD g AD LL EE lc ec) H) "java/lang/IndexOutOfBoundsException" := by
  refine xr_of (cc := cX2_digestIn) (maxL := 2) (ret := (some .int)) (by decide) rfl (Nat.le_of_ble_eq_true rfl) ?_
  intro p e s m args below meth c ls hx hb hml hts hown hK hP hZ hlocks ht hl
  have hl : lv_has ls 2 [(0, .ref (AD 0)), (1, .int (x))] := hl
  have S : CallFix p m c cX2_digestIn 2 s args wsX2_digestIn RX2 := ⟨hx, hb, hml, hown, hts⟩
  refine lv_aload_n hx hb dX2_digestIn_0 rfl (lv_at hl 0 rfl) ?_
  refine lv_iload_n hx hb dX2_digestIn_1 rfl (lv_at hl 1 rfl) ?_
  exact x_V (As := [.int (x)]) (rest := []) S (c_X2_requireEnvelope_x l hlt g AD LL EE LN lc ec hlc hec hLL hEE x hxb) (cwV 1 hts gX2_digestIn_X2_requireEnvelope rfl rfl rfl (by decide +kernel) ⟨Nat.le_of_ble_eq_true rfl, Nat.le_of_ble_eq_true rfl⟩) hK hZ (va_recv hK.1 hP (ci := 2) (q0 := 0) rfl dk_me) (hP) rfl hl.1 rfl (Nat.le_of_ble_eq_true rfl) dX2_digestIn_2 ⟨Nat.le_of_ble_eq_true rfl, Nat.le_of_ble_eq_true rfl⟩ ht hlocks

set_option maxHeartbeats 4000000 in
set_option maxRecDepth 100000 in
/-- sealOf -/
theorem c_X2_sealOf (l : Launch) (g : gT) (AD : Nat → Nat) (LL : Nat → ltT) (EE : Nat → evT) (LN : Nat → Nat) (lc ec : Nat) (hlc : lc ≤ 12) (hec : ec ≤ 24) (hLL : ∀ i, i < 12 → (LL i).2.2 ≤ 40) (hEE : ∀ q, q < ec → (EE q).1 = nI (LN q) ∧ LN q < lc ∧ (EE q).2.2.1 ≤ 40 ∧ (EE q).2.2.2.1 ≤ 8) (q : Nat) (hq : q < ec) : pM g l yX2_sealOf wsX2_sealOf { frames := 7, cells := 0, slots := 0, locals := 103 } [.ref (AD 0), .int (nI q)] (fun H => va_P (gD g) vwCl (wsD g AD LL EE lc ec) H) (.int ((EE q).2.2.2.2.2.2.1)) := by
  refine pu_ofI (cc := cX2_sealOf) (maxL := 2) (by decide) rfl (Nat.le_of_ble_eq_true rfl) ?_
  intro p e s m args below meth c H ls Q hx hb hml hts hown hK hP hl hret
  have hl : lv_has ls 2 [(0, .ref (AD 0)), (1, .int (nI q))] := hl
  have S : CallFix p m c cX2_sealOf 2 s args wsX2_sealOf RX2 := ⟨hx, hb, hml, hown, hts⟩
  have iX0 : ∀ w ∈ u_ws RX0 TX0 8, w ∈ wsX2_sealOf := by decide +kernel
  have n98 : (Cond.fieldLinkNest RX2 98 "LetterSeals$Envelope" "seal" "I" "LetterSeals").before args s = true := va_Nw.use rfl (hK.2.1 ("LetterSeals", 98, "LetterSeals$Envelope", "seal", "I") (List.mem_of_getElem? (i := 6) rfl))
  refine lv_aload_n hx hb dX2_sealOf_0 rfl (lv_at hl 0 rfl) ?_
  refine lv_iload_n hx hb dX2_sealOf_1 rfl (lv_at hl 1 rfl) ?_
  refine p_V (As := [.int (nI q)]) (rest := []) S (c_X2_requireEnvelope l g AD LL EE LN lc ec hlc hec hLL hEE q hq) (cwV 1 hts gX2_sealOf_X2_requireEnvelope rfl rfl rfl (by decide +kernel) ⟨Nat.le_of_ble_eq_true rfl, Nat.le_of_ble_eq_true rfl⟩) hK (va_recv hK.1 hP (ci := 2) (q0 := 0) rfl dk_me) (hP) rfl hl.1 rfl (Nat.le_of_ble_eq_true rfl) dX2_sealOf_2 ⟨Nat.le_of_ble_eq_true rfl, Nat.le_of_ble_eq_true rfl⟩ ?_
  have hE1 := dk_env hP (q := q) (by omega)
  refine va_getN (D := gD g) (ci := 0) (v := .int ((EE q).2.2.2.2.2.2.1)) (C := RX0) (T := TX0) (N := 8) hx hb hts iX0 hown hK.1 hE1 0 rfl rfl 7 (by decide) n98 (fun _ h9 => h9) rfl dX2_sealOf_5 ?_
  exact hret _ _ dX2_sealOf_8

set_option maxHeartbeats 4000000 in
set_option maxRecDepth 100000 in
/-- sealOf_x -/
theorem c_X2_sealOf_x (l : Launch) (hlt : l.stackTraces = false) (g : gT) (AD : Nat → Nat) (LL : Nat → ltT) (EE : Nat → evT) (LN : Nat → Nat) (lc ec : Nat) (hlc : lc ≤ 12) (hec : ec ≤ 24) (hLL : ∀ i, i < 12 → (LL i).2.2 ≤ 40) (hEE : ∀ q, q < ec → (EE q).1 = nI (LN q) ∧ LN q < lc ∧ (EE q).2.2.1 ≤ 40 ∧ (EE q).2.2.2.1 ≤ 8) (x : Int32) (hxb : inB x ec = false) : xM g l yX2_sealOf wsX2_sealOf { frames := 7, cells := 1, slots := 6, locals := 103 } [.ref (AD 0), .int (x)] (fun H => va_P (gD g) vwCl (wsD g AD LL EE lc ec) H) "java/lang/IndexOutOfBoundsException" := by
  refine xr_of (cc := cX2_sealOf) (maxL := 2) (ret := (some .int)) (by decide) rfl (Nat.le_of_ble_eq_true rfl) ?_
  intro p e s m args below meth c ls hx hb hml hts hown hK hP hZ hlocks ht hl
  have hl : lv_has ls 2 [(0, .ref (AD 0)), (1, .int (x))] := hl
  have S : CallFix p m c cX2_sealOf 2 s args wsX2_sealOf RX2 := ⟨hx, hb, hml, hown, hts⟩
  refine lv_aload_n hx hb dX2_sealOf_0 rfl (lv_at hl 0 rfl) ?_
  refine lv_iload_n hx hb dX2_sealOf_1 rfl (lv_at hl 1 rfl) ?_
  exact x_V (As := [.int (x)]) (rest := []) S (c_X2_requireEnvelope_x l hlt g AD LL EE LN lc ec hlc hec hLL hEE x hxb) (cwV 1 hts gX2_sealOf_X2_requireEnvelope rfl rfl rfl (by decide +kernel) ⟨Nat.le_of_ble_eq_true rfl, Nat.le_of_ble_eq_true rfl⟩) hK hZ (va_recv hK.1 hP (ci := 2) (q0 := 0) rfl dk_me) (hP) rfl hl.1 rfl (Nat.le_of_ble_eq_true rfl) dX2_sealOf_2 ⟨Nat.le_of_ble_eq_true rfl, Nat.le_of_ble_eq_true rfl⟩ ht hlocks

set_option maxHeartbeats 4000000 in
set_option maxRecDepth 100000 in
/-- isWhole -/
theorem c_X2_isWhole (l : Launch) (g : gT) (AD : Nat → Nat) (LL : Nat → ltT) (EE : Nat → evT) (LN : Nat → Nat) (lc ec : Nat) (hlc : lc ≤ 12) (hec : ec ≤ 24) (hLL : ∀ i, i < 12 → (LL i).2.2 ≤ 40) (hEE : ∀ q, q < ec → (EE q).1 = nI (LN q) ∧ LN q < lc ∧ (EE q).2.2.1 ≤ 40 ∧ (EE q).2.2.2.1 ≤ 8) (q : Nat) (hq : q < ec) : pM g l yX2_isWhole wsX2_isWhole { frames := 7, cells := 0, slots := 0, locals := 103 } [.ref (AD 0), .int (nI q)] (fun H => va_P (gD g) vwCl (wsD g AD LL EE lc ec) H) (.int (bI (ftD LL EE LN q))) := by
  refine pu_ofZ (cc := cX2_isWhole) (maxL := 3) (bI_n _) (by decide) rfl (Nat.le_of_ble_eq_true rfl) ?_
  intro p e s m args below meth c H ls Q hx hb hml hts hown hK hP hl hret
  have hl : lv_has ls 3 [(0, .ref (AD 0)), (1, .int (nI q))] := hl
  have S : CallFix p m c cX2_isWhole 3 s args wsX2_isWhole RX2 := ⟨hx, hb, hml, hown, hts⟩
  have iX0 : ∀ w ∈ u_ws RX0 TX0 8, w ∈ wsX2_isWhole := by decide +kernel
  have iX2 : ∀ w ∈ u_ws RX2 TX2 4, w ∈ wsX2_isWhole := by decide +kernel
  have f11 := hts (.fieldLink RX2 11 "LetterSeals" "letterRow" "[LLetterSeals$Letter;") (by decide +kernel)
  have n133 : (Cond.fieldLinkNest RX2 133 "LetterSeals$Envelope" "letterNumber" "I" "LetterSeals").before args s = true := va_Nw.use rfl (hK.2.1 ("LetterSeals", 133, "LetterSeals$Envelope", "letterNumber", "I") (List.mem_of_getElem? (i := 4) rfl))
  refine lv_aload_n hx hb dX2_isWhole_0 rfl (lv_at hl 0 rfl) ?_
  refine lv_iload_n hx hb dX2_isWhole_1 rfl (lv_at hl 1 rfl) ?_
  refine p_V (As := [.int (nI q)]) (rest := []) S (c_X2_requireEnvelope l g AD LL EE LN lc ec hlc hec hLL hEE q hq) (cwV 1 hts gX2_isWhole_X2_requireEnvelope rfl rfl rfl (by decide +kernel) ⟨Nat.le_of_ble_eq_true rfl, Nat.le_of_ble_eq_true rfl⟩) hK (va_recv hK.1 hP (ci := 2) (q0 := 0) rfl dk_me) (hP) rfl hl.1 rfl (Nat.le_of_ble_eq_true rfl) dX2_isWhole_2 ⟨Nat.le_of_ble_eq_true rfl, Nat.le_of_ble_eq_true rfl⟩ ?_
  refine lv_astore_n (lv' := [(2, .ref (AD (39 + 2 * q))), (0, .ref (AD 0)), (1, .int (nI q))]) hx hb dX2_isWhole_5 rfl hl (by decide) rfl (fun ls hl => ?_)
  refine lv_aload_n hx hb dX2_isWhole_6 rfl (lv_at hl 0 rfl) ?_
  refine lv_aload_n hx hb dX2_isWhole_7 rfl (lv_at hl 1 rfl) ?_
  refine va_get (D := gD g) (ci := 2) (v := .ref (AD 1)) (C := RX2) (T := TX2) (N := 4) hx hb hts iX2 hown hK.1 hP 0 dk_me rfl 0 (by decide) f11 (fun _ h9 => h9) rfl dX2_isWhole_8 ?_
  refine lv_aload_n hx hb dX2_isWhole_11 rfl (lv_at hl 0 rfl) ?_
  have hE1 := dk_env hP (q := q) (by omega)
  refine va_getN (D := gD g) (ci := 0) (v := .int ((EE q).1)) (C := RX0) (T := TX0) (N := 8) hx hb hts iX0 hown hK.1 hE1 0 rfl rfl 1 (by decide) n133 (fun _ h9 => h9) rfl dX2_isWhole_12 ?_
  have hln := (hEE q hq).2.1
  refine lv_toI (z := nI (LN q)) ((hEE q hq).1) ?_
  refine ld_Q (C := "LetterSeals$Letter") (k := LN q) (n := 12) (f := fun i => some (AD (3 + 3 * i))) (r := AD (3 + 3 * (LN q))) hx hb hK.1 hP 1 1 dk_lr rfl (by omega) (by decide) rfl dX2_isWhole_15 ?_
  have hL2 := dk_letter hP (i := LN q) (by omega)
  refine p_V (As := [.ref (AD (3 + 3 * (LN q)))]) (rest := []) S (c_X0_fits l g (AD (39 + 2 * q)) (AD (40 + 2 * q)) (EE q).1 (EE q).2.1 (EE q).2.2.1 (EE q).2.2.2.1 (EE q).2.2.2.2.1 (EE q).2.2.2.2.2.1 (EE q).2.2.2.2.2.2.1 (EE q).2.2.2.2.2.2.2 (hEE q (by omega)).2.2.1 (hEE q (by omega)).2.2.2 (AD (3 + 3 * (LN q))) (AD (4 + 3 * (LN q))) (AD (5 + 3 * (LN q))) ((LL (LN q)).1) ((LL (LN q)).2.1) ((LL (LN q)).2.2) (hLL _ (by omega))) (cwV 1 hts gX2_isWhole_X0_fits rfl rfl rfl (by decide +kernel) ⟨Nat.le_of_ble_eq_true rfl, Nat.le_of_ble_eq_true rfl⟩) hK (va_recv hK.1 hE1 (ci := 0) (q0 := 0) rfl rfl) (⟨hE1, hL2⟩) rfl hl.1 rfl (Nat.le_of_ble_eq_true rfl) dX2_isWhole_16 ⟨Nat.le_of_ble_eq_true rfl, Nat.le_of_ble_eq_true rfl⟩ ?_
  refine lv_toI (z := bI (ftD LL EE LN q)) (rfl) ?_
  exact hret _ _ dX2_isWhole_19

set_option maxHeartbeats 4000000 in
set_option maxRecDepth 100000 in
/-- isWhole_x -/
theorem c_X2_isWhole_x (l : Launch) (hlt : l.stackTraces = false) (g : gT) (AD : Nat → Nat) (LL : Nat → ltT) (EE : Nat → evT) (LN : Nat → Nat) (lc ec : Nat) (hlc : lc ≤ 12) (hec : ec ≤ 24) (hLL : ∀ i, i < 12 → (LL i).2.2 ≤ 40) (hEE : ∀ q, q < ec → (EE q).1 = nI (LN q) ∧ LN q < lc ∧ (EE q).2.2.1 ≤ 40 ∧ (EE q).2.2.2.1 ≤ 8) (x : Int32) (hxb : inB x ec = false) : xM g l yX2_isWhole wsX2_isWhole { frames := 7, cells := 1, slots := 6, locals := 103 } [.ref (AD 0), .int (x)] (fun H => va_P (gD g) vwCl (wsD g AD LL EE lc ec) H) "java/lang/IndexOutOfBoundsException" := by
  refine xr_of (cc := cX2_isWhole) (maxL := 3) (ret := (some .boolean)) (by decide) rfl (Nat.le_of_ble_eq_true rfl) ?_
  intro p e s m args below meth c ls hx hb hml hts hown hK hP hZ hlocks ht hl
  have hl : lv_has ls 3 [(0, .ref (AD 0)), (1, .int (x))] := hl
  have S : CallFix p m c cX2_isWhole 3 s args wsX2_isWhole RX2 := ⟨hx, hb, hml, hown, hts⟩
  refine lv_aload_n hx hb dX2_isWhole_0 rfl (lv_at hl 0 rfl) ?_
  refine lv_iload_n hx hb dX2_isWhole_1 rfl (lv_at hl 1 rfl) ?_
  exact x_V (As := [.int (x)]) (rest := []) S (c_X2_requireEnvelope_x l hlt g AD LL EE LN lc ec hlc hec hLL hEE x hxb) (cwV 1 hts gX2_isWhole_X2_requireEnvelope rfl rfl rfl (by decide +kernel) ⟨Nat.le_of_ble_eq_true rfl, Nat.le_of_ble_eq_true rfl⟩) hK hZ (va_recv hK.1 hP (ci := 2) (q0 := 0) rfl dk_me) (hP) rfl hl.1 rfl (Nat.le_of_ble_eq_true rfl) dX2_isWhole_2 ⟨Nat.le_of_ble_eq_true rfl, Nat.le_of_ble_eq_true rfl⟩ ht hlocks

set_option maxHeartbeats 4000000 in
set_option maxRecDepth 100000 in
/-- tornBlocks -/
theorem c_X2_tornBlocks (l : Launch) (g : gT) (AD : Nat → Nat) (LL : Nat → ltT) (EE : Nat → evT) (LN : Nat → Nat) (lc ec : Nat) (hlc : lc ≤ 12) (hec : ec ≤ 24) (hLL : ∀ i, i < 12 → (LL i).2.2 ≤ 40) (hEE : ∀ q, q < ec → (EE q).1 = nI (LN q) ∧ LN q < lc ∧ (EE q).2.2.1 ≤ 40 ∧ (EE q).2.2.2.1 ≤ 8) (q : Nat) (hq : q < ec) : pM g l yX2_tornBlocks wsX2_tornBlocks { frames := 7, cells := 0, slots := 0, locals := 103 } [.ref (AD 0), .int (nI q)] (fun H => va_P (gD g) vwCl (wsD g AD LL EE lc ec) H) (.int (acF (toD LL EE LN q) 0 8)) := by
  refine pu_ofI (cc := cX2_tornBlocks) (maxL := 3) (by decide) rfl (Nat.le_of_ble_eq_true rfl) ?_
  intro p e s m args below meth c H ls Q hx hb hml hts hown hK hP hl hret
  have hl : lv_has ls 3 [(0, .ref (AD 0)), (1, .int (nI q))] := hl
  have S : CallFix p m c cX2_tornBlocks 3 s args wsX2_tornBlocks RX2 := ⟨hx, hb, hml, hown, hts⟩
  have iX0 : ∀ w ∈ u_ws RX0 TX0 8, w ∈ wsX2_tornBlocks := by decide +kernel
  have iX2 : ∀ w ∈ u_ws RX2 TX2 4, w ∈ wsX2_tornBlocks := by decide +kernel
  have f11 := hts (.fieldLink RX2 11 "LetterSeals" "letterRow" "[LLetterSeals$Letter;") (by decide +kernel)
  have n133 : (Cond.fieldLinkNest RX2 133 "LetterSeals$Envelope" "letterNumber" "I" "LetterSeals").before args s = true := va_Nw.use rfl (hK.2.1 ("LetterSeals", 133, "LetterSeals$Envelope", "letterNumber", "I") (List.mem_of_getElem? (i := 4) rfl))
  refine lv_aload_n hx hb dX2_tornBlocks_0 rfl (lv_at hl 0 rfl) ?_
  refine lv_iload_n hx hb dX2_tornBlocks_1 rfl (lv_at hl 1 rfl) ?_
  refine p_V (As := [.int (nI q)]) (rest := []) S (c_X2_requireEnvelope l g AD LL EE LN lc ec hlc hec hLL hEE q hq) (cwV 1 hts gX2_tornBlocks_X2_requireEnvelope rfl rfl rfl (by decide +kernel) ⟨Nat.le_of_ble_eq_true rfl, Nat.le_of_ble_eq_true rfl⟩) hK (va_recv hK.1 hP (ci := 2) (q0 := 0) rfl dk_me) (hP) rfl hl.1 rfl (Nat.le_of_ble_eq_true rfl) dX2_tornBlocks_2 ⟨Nat.le_of_ble_eq_true rfl, Nat.le_of_ble_eq_true rfl⟩ ?_
  refine lv_astore_n (lv' := [(2, .ref (AD (39 + 2 * q))), (0, .ref (AD 0)), (1, .int (nI q))]) hx hb dX2_tornBlocks_5 rfl hl (by decide) rfl (fun ls hl => ?_)
  refine lv_aload_n hx hb dX2_tornBlocks_6 rfl (lv_at hl 0 rfl) ?_
  refine lv_aload_n hx hb dX2_tornBlocks_7 rfl (lv_at hl 1 rfl) ?_
  refine va_get (D := gD g) (ci := 2) (v := .ref (AD 1)) (C := RX2) (T := TX2) (N := 4) hx hb hts iX2 hown hK.1 hP 0 dk_me rfl 0 (by decide) f11 (fun _ h9 => h9) rfl dX2_tornBlocks_8 ?_
  refine lv_aload_n hx hb dX2_tornBlocks_11 rfl (lv_at hl 0 rfl) ?_
  have hE1 := dk_env hP (q := q) (by omega)
  refine va_getN (D := gD g) (ci := 0) (v := .int ((EE q).1)) (C := RX0) (T := TX0) (N := 8) hx hb hts iX0 hown hK.1 hE1 0 rfl rfl 1 (by decide) n133 (fun _ h9 => h9) rfl dX2_tornBlocks_12 ?_
  have hln := (hEE q hq).2.1
  refine lv_toI (z := nI (LN q)) ((hEE q hq).1) ?_
  refine ld_Q (C := "LetterSeals$Letter") (k := LN q) (n := 12) (f := fun i => some (AD (3 + 3 * i))) (r := AD (3 + 3 * (LN q))) hx hb hK.1 hP 1 1 dk_lr rfl (by omega) (by decide) rfl dX2_tornBlocks_15 ?_
  have hL2 := dk_letter hP (i := LN q) (by omega)
  refine p_V (As := [.ref (AD (3 + 3 * (LN q)))]) (rest := []) S (c_X0_tornBlockCount l g (AD (39 + 2 * q)) (AD (40 + 2 * q)) (EE q).1 (EE q).2.1 (EE q).2.2.1 (EE q).2.2.2.1 (EE q).2.2.2.2.1 (EE q).2.2.2.2.2.1 (EE q).2.2.2.2.2.2.1 (EE q).2.2.2.2.2.2.2 (hEE q (by omega)).2.2.1 (hEE q (by omega)).2.2.2 (AD (3 + 3 * (LN q))) (AD (4 + 3 * (LN q))) (AD (5 + 3 * (LN q))) ((LL (LN q)).1) ((LL (LN q)).2.1) ((LL (LN q)).2.2) (hLL _ (by omega))) (cwV 1 hts gX2_tornBlocks_X0_tornBlockCount rfl rfl rfl (by decide +kernel) ⟨Nat.le_of_ble_eq_true rfl, Nat.le_of_ble_eq_true rfl⟩) hK (va_recv hK.1 hE1 (ci := 0) (q0 := 0) rfl rfl) (⟨hE1, hL2⟩) rfl hl.1 rfl (Nat.le_of_ble_eq_true rfl) dX2_tornBlocks_16 ⟨Nat.le_of_ble_eq_true rfl, Nat.le_of_ble_eq_true rfl⟩ ?_
  refine lv_toI (z := acF (toD LL EE LN q) 0 8) (rfl) ?_
  exact hret _ _ dX2_tornBlocks_19

set_option maxHeartbeats 4000000 in
set_option maxRecDepth 100000 in
/-- tornBlocks_x -/
theorem c_X2_tornBlocks_x (l : Launch) (hlt : l.stackTraces = false) (g : gT) (AD : Nat → Nat) (LL : Nat → ltT) (EE : Nat → evT) (LN : Nat → Nat) (lc ec : Nat) (hlc : lc ≤ 12) (hec : ec ≤ 24) (hLL : ∀ i, i < 12 → (LL i).2.2 ≤ 40) (hEE : ∀ q, q < ec → (EE q).1 = nI (LN q) ∧ LN q < lc ∧ (EE q).2.2.1 ≤ 40 ∧ (EE q).2.2.2.1 ≤ 8) (x : Int32) (hxb : inB x ec = false) : xM g l yX2_tornBlocks wsX2_tornBlocks { frames := 7, cells := 1, slots := 6, locals := 103 } [.ref (AD 0), .int (x)] (fun H => va_P (gD g) vwCl (wsD g AD LL EE lc ec) H) "java/lang/IndexOutOfBoundsException" := by
  refine xr_of (cc := cX2_tornBlocks) (maxL := 3) (ret := (some .int)) (by decide) rfl (Nat.le_of_ble_eq_true rfl) ?_
  intro p e s m args below meth c ls hx hb hml hts hown hK hP hZ hlocks ht hl
  have hl : lv_has ls 3 [(0, .ref (AD 0)), (1, .int (x))] := hl
  have S : CallFix p m c cX2_tornBlocks 3 s args wsX2_tornBlocks RX2 := ⟨hx, hb, hml, hown, hts⟩
  refine lv_aload_n hx hb dX2_tornBlocks_0 rfl (lv_at hl 0 rfl) ?_
  refine lv_iload_n hx hb dX2_tornBlocks_1 rfl (lv_at hl 1 rfl) ?_
  exact x_V (As := [.int (x)]) (rest := []) S (c_X2_requireEnvelope_x l hlt g AD LL EE LN lc ec hlc hec hLL hEE x hxb) (cwV 1 hts gX2_tornBlocks_X2_requireEnvelope rfl rfl rfl (by decide +kernel) ⟨Nat.le_of_ble_eq_true rfl, Nat.le_of_ble_eq_true rfl⟩) hK hZ (va_recv hK.1 hP (ci := 2) (q0 := 0) rfl dk_me) (hP) rfl hl.1 rfl (Nat.le_of_ble_eq_true rfl) dX2_tornBlocks_2 ⟨Nat.le_of_ble_eq_true rfl, Nat.le_of_ble_eq_true rfl⟩ ht hlocks

set_option maxHeartbeats 4000000 in
set_option maxRecDepth 100000 in
/-- firstTorn -/
theorem c_X2_firstTorn (l : Launch) (g : gT) (AD : Nat → Nat) (LL : Nat → ltT) (EE : Nat → evT) (LN : Nat → Nat) (lc ec : Nat) (hlc : lc ≤ 12) (hec : ec ≤ 24) (hLL : ∀ i, i < 12 → (LL i).2.2 ≤ 40) (hEE : ∀ q, q < ec → (EE q).1 = nI (LN q) ∧ LN q < lc ∧ (EE q).2.2.1 ≤ 40 ∧ (EE q).2.2.2.1 ≤ 8) (q : Nat) (hq : q < ec) : pM g l yX2_firstTorn wsX2_firstTorn { frames := 7, cells := 0, slots := 0, locals := 103 } [.ref (AD 0), .int (nI q)] (fun H => va_P (gD g) vwCl (wsD g AD LL EE lc ec) H) (.int (fsF (toD LL EE LN q) 8 0)) := by
  refine pu_ofI (cc := cX2_firstTorn) (maxL := 3) (by decide) rfl (Nat.le_of_ble_eq_true rfl) ?_
  intro p e s m args below meth c H ls Q hx hb hml hts hown hK hP hl hret
  have hl : lv_has ls 3 [(0, .ref (AD 0)), (1, .int (nI q))] := hl
  have S : CallFix p m c cX2_firstTorn 3 s args wsX2_firstTorn RX2 := ⟨hx, hb, hml, hown, hts⟩
  have iX0 : ∀ w ∈ u_ws RX0 TX0 8, w ∈ wsX2_firstTorn := by decide +kernel
  have iX2 : ∀ w ∈ u_ws RX2 TX2 4, w ∈ wsX2_firstTorn := by decide +kernel
  have f11 := hts (.fieldLink RX2 11 "LetterSeals" "letterRow" "[LLetterSeals$Letter;") (by decide +kernel)
  have n133 : (Cond.fieldLinkNest RX2 133 "LetterSeals$Envelope" "letterNumber" "I" "LetterSeals").before args s = true := va_Nw.use rfl (hK.2.1 ("LetterSeals", 133, "LetterSeals$Envelope", "letterNumber", "I") (List.mem_of_getElem? (i := 4) rfl))
  refine lv_aload_n hx hb dX2_firstTorn_0 rfl (lv_at hl 0 rfl) ?_
  refine lv_iload_n hx hb dX2_firstTorn_1 rfl (lv_at hl 1 rfl) ?_
  refine p_V (As := [.int (nI q)]) (rest := []) S (c_X2_requireEnvelope l g AD LL EE LN lc ec hlc hec hLL hEE q hq) (cwV 1 hts gX2_firstTorn_X2_requireEnvelope rfl rfl rfl (by decide +kernel) ⟨Nat.le_of_ble_eq_true rfl, Nat.le_of_ble_eq_true rfl⟩) hK (va_recv hK.1 hP (ci := 2) (q0 := 0) rfl dk_me) (hP) rfl hl.1 rfl (Nat.le_of_ble_eq_true rfl) dX2_firstTorn_2 ⟨Nat.le_of_ble_eq_true rfl, Nat.le_of_ble_eq_true rfl⟩ ?_
  refine lv_astore_n (lv' := [(2, .ref (AD (39 + 2 * q))), (0, .ref (AD 0)), (1, .int (nI q))]) hx hb dX2_firstTorn_5 rfl hl (by decide) rfl (fun ls hl => ?_)
  refine lv_aload_n hx hb dX2_firstTorn_6 rfl (lv_at hl 0 rfl) ?_
  refine lv_aload_n hx hb dX2_firstTorn_7 rfl (lv_at hl 1 rfl) ?_
  refine va_get (D := gD g) (ci := 2) (v := .ref (AD 1)) (C := RX2) (T := TX2) (N := 4) hx hb hts iX2 hown hK.1 hP 0 dk_me rfl 0 (by decide) f11 (fun _ h9 => h9) rfl dX2_firstTorn_8 ?_
  refine lv_aload_n hx hb dX2_firstTorn_11 rfl (lv_at hl 0 rfl) ?_
  have hE1 := dk_env hP (q := q) (by omega)
  refine va_getN (D := gD g) (ci := 0) (v := .int ((EE q).1)) (C := RX0) (T := TX0) (N := 8) hx hb hts iX0 hown hK.1 hE1 0 rfl rfl 1 (by decide) n133 (fun _ h9 => h9) rfl dX2_firstTorn_12 ?_
  have hln := (hEE q hq).2.1
  refine lv_toI (z := nI (LN q)) ((hEE q hq).1) ?_
  refine ld_Q (C := "LetterSeals$Letter") (k := LN q) (n := 12) (f := fun i => some (AD (3 + 3 * i))) (r := AD (3 + 3 * (LN q))) hx hb hK.1 hP 1 1 dk_lr rfl (by omega) (by decide) rfl dX2_firstTorn_15 ?_
  have hL2 := dk_letter hP (i := LN q) (by omega)
  refine p_V (As := [.ref (AD (3 + 3 * (LN q)))]) (rest := []) S (c_X0_firstTornBlock l g (AD (39 + 2 * q)) (AD (40 + 2 * q)) (EE q).1 (EE q).2.1 (EE q).2.2.1 (EE q).2.2.2.1 (EE q).2.2.2.2.1 (EE q).2.2.2.2.2.1 (EE q).2.2.2.2.2.2.1 (EE q).2.2.2.2.2.2.2 (hEE q (by omega)).2.2.1 (hEE q (by omega)).2.2.2 (AD (3 + 3 * (LN q))) (AD (4 + 3 * (LN q))) (AD (5 + 3 * (LN q))) ((LL (LN q)).1) ((LL (LN q)).2.1) ((LL (LN q)).2.2) (hLL _ (by omega))) (cwV 1 hts gX2_firstTorn_X0_firstTornBlock rfl rfl rfl (by decide +kernel) ⟨Nat.le_of_ble_eq_true rfl, Nat.le_of_ble_eq_true rfl⟩) hK (va_recv hK.1 hE1 (ci := 0) (q0 := 0) rfl rfl) (⟨hE1, hL2⟩) rfl hl.1 rfl (Nat.le_of_ble_eq_true rfl) dX2_firstTorn_16 ⟨Nat.le_of_ble_eq_true rfl, Nat.le_of_ble_eq_true rfl⟩ ?_
  refine lv_toI (z := fsF (toD LL EE LN q) 8 0) (rfl) ?_
  exact hret _ _ dX2_firstTorn_19

set_option maxHeartbeats 4000000 in
set_option maxRecDepth 100000 in
/-- firstTorn_x -/
theorem c_X2_firstTorn_x (l : Launch) (hlt : l.stackTraces = false) (g : gT) (AD : Nat → Nat) (LL : Nat → ltT) (EE : Nat → evT) (LN : Nat → Nat) (lc ec : Nat) (hlc : lc ≤ 12) (hec : ec ≤ 24) (hLL : ∀ i, i < 12 → (LL i).2.2 ≤ 40) (hEE : ∀ q, q < ec → (EE q).1 = nI (LN q) ∧ LN q < lc ∧ (EE q).2.2.1 ≤ 40 ∧ (EE q).2.2.2.1 ≤ 8) (x : Int32) (hxb : inB x ec = false) : xM g l yX2_firstTorn wsX2_firstTorn { frames := 7, cells := 1, slots := 6, locals := 103 } [.ref (AD 0), .int (x)] (fun H => va_P (gD g) vwCl (wsD g AD LL EE lc ec) H) "java/lang/IndexOutOfBoundsException" := by
  refine xr_of (cc := cX2_firstTorn) (maxL := 3) (ret := (some .int)) (by decide) rfl (Nat.le_of_ble_eq_true rfl) ?_
  intro p e s m args below meth c ls hx hb hml hts hown hK hP hZ hlocks ht hl
  have hl : lv_has ls 3 [(0, .ref (AD 0)), (1, .int (x))] := hl
  have S : CallFix p m c cX2_firstTorn 3 s args wsX2_firstTorn RX2 := ⟨hx, hb, hml, hown, hts⟩
  refine lv_aload_n hx hb dX2_firstTorn_0 rfl (lv_at hl 0 rfl) ?_
  refine lv_iload_n hx hb dX2_firstTorn_1 rfl (lv_at hl 1 rfl) ?_
  exact x_V (As := [.int (x)]) (rest := []) S (c_X2_requireEnvelope_x l hlt g AD LL EE LN lc ec hlc hec hLL hEE x hxb) (cwV 1 hts gX2_firstTorn_X2_requireEnvelope rfl rfl rfl (by decide +kernel) ⟨Nat.le_of_ble_eq_true rfl, Nat.le_of_ble_eq_true rfl⟩) hK hZ (va_recv hK.1 hP (ci := 2) (q0 := 0) rfl dk_me) (hP) rfl hl.1 rfl (Nat.le_of_ble_eq_true rfl) dX2_firstTorn_2 ⟨Nat.le_of_ble_eq_true rfl, Nat.le_of_ble_eq_true rfl⟩ ht hlocks

set_option maxHeartbeats 4000000 in
set_option maxRecDepth 100000 in
/-- changedPlace -/
theorem c_X2_changedPlace (l : Launch) (g : gT) (AD : Nat → Nat) (LL : Nat → ltT) (EE : Nat → evT) (LN : Nat → Nat) (lc ec : Nat) (hlc : lc ≤ 12) (hec : ec ≤ 24) (hLL : ∀ i, i < 12 → (LL i).2.2 ≤ 40) (hEE : ∀ q, q < ec → (EE q).1 = nI (LN q) ∧ LN q < lc ∧ (EE q).2.2.1 ≤ 40 ∧ (EE q).2.2.2.1 ≤ 8) (q : Nat) (hq : q < ec) : pM g l yX2_changedPlace wsX2_changedPlace { frames := 7, cells := 0, slots := 0, locals := 103 } [.ref (AD 0), .int (nI q)] (fun H => va_P (gD g) vwCl (wsD g AD LL EE lc ec) H) (.int (chD LL EE LN q)) := by
  refine pu_ofI (cc := cX2_changedPlace) (maxL := 3) (by decide) rfl (Nat.le_of_ble_eq_true rfl) ?_
  intro p e s m args below meth c H ls Q hx hb hml hts hown hK hP hl hret
  have hl : lv_has ls 3 [(0, .ref (AD 0)), (1, .int (nI q))] := hl
  have S : CallFix p m c cX2_changedPlace 3 s args wsX2_changedPlace RX2 := ⟨hx, hb, hml, hown, hts⟩
  have iX0 : ∀ w ∈ u_ws RX0 TX0 8, w ∈ wsX2_changedPlace := by decide +kernel
  have iX2 : ∀ w ∈ u_ws RX2 TX2 4, w ∈ wsX2_changedPlace := by decide +kernel
  have f11 := hts (.fieldLink RX2 11 "LetterSeals" "letterRow" "[LLetterSeals$Letter;") (by decide +kernel)
  have n133 : (Cond.fieldLinkNest RX2 133 "LetterSeals$Envelope" "letterNumber" "I" "LetterSeals").before args s = true := va_Nw.use rfl (hK.2.1 ("LetterSeals", 133, "LetterSeals$Envelope", "letterNumber", "I") (List.mem_of_getElem? (i := 4) rfl))
  refine lv_aload_n hx hb dX2_changedPlace_0 rfl (lv_at hl 0 rfl) ?_
  refine lv_iload_n hx hb dX2_changedPlace_1 rfl (lv_at hl 1 rfl) ?_
  refine p_V (As := [.int (nI q)]) (rest := []) S (c_X2_requireEnvelope l g AD LL EE LN lc ec hlc hec hLL hEE q hq) (cwV 1 hts gX2_changedPlace_X2_requireEnvelope rfl rfl rfl (by decide +kernel) ⟨Nat.le_of_ble_eq_true rfl, Nat.le_of_ble_eq_true rfl⟩) hK (va_recv hK.1 hP (ci := 2) (q0 := 0) rfl dk_me) (hP) rfl hl.1 rfl (Nat.le_of_ble_eq_true rfl) dX2_changedPlace_2 ⟨Nat.le_of_ble_eq_true rfl, Nat.le_of_ble_eq_true rfl⟩ ?_
  refine lv_astore_n (lv' := [(2, .ref (AD (39 + 2 * q))), (0, .ref (AD 0)), (1, .int (nI q))]) hx hb dX2_changedPlace_5 rfl hl (by decide) rfl (fun ls hl => ?_)
  refine lv_aload_n hx hb dX2_changedPlace_6 rfl (lv_at hl 0 rfl) ?_
  refine lv_aload_n hx hb dX2_changedPlace_7 rfl (lv_at hl 1 rfl) ?_
  refine va_get (D := gD g) (ci := 2) (v := .ref (AD 1)) (C := RX2) (T := TX2) (N := 4) hx hb hts iX2 hown hK.1 hP 0 dk_me rfl 0 (by decide) f11 (fun _ h9 => h9) rfl dX2_changedPlace_8 ?_
  refine lv_aload_n hx hb dX2_changedPlace_11 rfl (lv_at hl 0 rfl) ?_
  have hE1 := dk_env hP (q := q) (by omega)
  refine va_getN (D := gD g) (ci := 0) (v := .int ((EE q).1)) (C := RX0) (T := TX0) (N := 8) hx hb hts iX0 hown hK.1 hE1 0 rfl rfl 1 (by decide) n133 (fun _ h9 => h9) rfl dX2_changedPlace_12 ?_
  have hln := (hEE q hq).2.1
  refine lv_toI (z := nI (LN q)) ((hEE q hq).1) ?_
  refine ld_Q (C := "LetterSeals$Letter") (k := LN q) (n := 12) (f := fun i => some (AD (3 + 3 * i))) (r := AD (3 + 3 * (LN q))) hx hb hK.1 hP 1 1 dk_lr rfl (by omega) (by decide) rfl dX2_changedPlace_15 ?_
  have hL2 := dk_letter hP (i := LN q) (by omega)
  refine p_V (As := [.ref (AD (3 + 3 * (LN q)))]) (rest := []) S (c_X0_placeOfChange l g (AD (39 + 2 * q)) (AD (40 + 2 * q)) (EE q).1 (EE q).2.1 (EE q).2.2.1 (EE q).2.2.2.1 (EE q).2.2.2.2.1 (EE q).2.2.2.2.2.1 (EE q).2.2.2.2.2.2.1 (EE q).2.2.2.2.2.2.2 (hEE q (by omega)).2.2.1 (hEE q (by omega)).2.2.2 (AD (3 + 3 * (LN q))) (AD (4 + 3 * (LN q))) (AD (5 + 3 * (LN q))) ((LL (LN q)).1) ((LL (LN q)).2.1) ((LL (LN q)).2.2) (hLL _ (by omega))) (cwV 1 hts gX2_changedPlace_X0_placeOfChange rfl rfl rfl (by decide +kernel) ⟨Nat.le_of_ble_eq_true rfl, Nat.le_of_ble_eq_true rfl⟩) hK (va_recv hK.1 hE1 (ci := 0) (q0 := 0) rfl rfl) (⟨hE1, hL2⟩) rfl hl.1 rfl (Nat.le_of_ble_eq_true rfl) dX2_changedPlace_16 ⟨Nat.le_of_ble_eq_true rfl, Nat.le_of_ble_eq_true rfl⟩ ?_
  refine lv_toI (z := chD LL EE LN q) (rfl) ?_
  exact hret _ _ dX2_changedPlace_19

set_option maxHeartbeats 4000000 in
set_option maxRecDepth 100000 in
/-- changedPlace_x -/
theorem c_X2_changedPlace_x (l : Launch) (hlt : l.stackTraces = false) (g : gT) (AD : Nat → Nat) (LL : Nat → ltT) (EE : Nat → evT) (LN : Nat → Nat) (lc ec : Nat) (hlc : lc ≤ 12) (hec : ec ≤ 24) (hLL : ∀ i, i < 12 → (LL i).2.2 ≤ 40) (hEE : ∀ q, q < ec → (EE q).1 = nI (LN q) ∧ LN q < lc ∧ (EE q).2.2.1 ≤ 40 ∧ (EE q).2.2.2.1 ≤ 8) (x : Int32) (hxb : inB x ec = false) : xM g l yX2_changedPlace wsX2_changedPlace { frames := 7, cells := 1, slots := 6, locals := 103 } [.ref (AD 0), .int (x)] (fun H => va_P (gD g) vwCl (wsD g AD LL EE lc ec) H) "java/lang/IndexOutOfBoundsException" := by
  refine xr_of (cc := cX2_changedPlace) (maxL := 3) (ret := (some .int)) (by decide) rfl (Nat.le_of_ble_eq_true rfl) ?_
  intro p e s m args below meth c ls hx hb hml hts hown hK hP hZ hlocks ht hl
  have hl : lv_has ls 3 [(0, .ref (AD 0)), (1, .int (x))] := hl
  have S : CallFix p m c cX2_changedPlace 3 s args wsX2_changedPlace RX2 := ⟨hx, hb, hml, hown, hts⟩
  refine lv_aload_n hx hb dX2_changedPlace_0 rfl (lv_at hl 0 rfl) ?_
  refine lv_iload_n hx hb dX2_changedPlace_1 rfl (lv_at hl 1 rfl) ?_
  exact x_V (As := [.int (x)]) (rest := []) S (c_X2_requireEnvelope_x l hlt g AD LL EE LN lc ec hlc hec hLL hEE x hxb) (cwV 1 hts gX2_changedPlace_X2_requireEnvelope rfl rfl rfl (by decide +kernel) ⟨Nat.le_of_ble_eq_true rfl, Nat.le_of_ble_eq_true rfl⟩) hK hZ (va_recv hK.1 hP (ci := 2) (q0 := 0) rfl dk_me) (hP) rfl hl.1 rfl (Nat.le_of_ble_eq_true rfl) dX2_changedPlace_2 ⟨Nat.le_of_ble_eq_true rfl, Nat.le_of_ble_eq_true rfl⟩ ht hlocks

set_option maxHeartbeats 4000000 in
set_option maxRecDepth 100000 in
/-- changedSign -/
theorem c_X2_changedSign (l : Launch) (g : gT) (AD : Nat → Nat) (LL : Nat → ltT) (EE : Nat → evT) (LN : Nat → Nat) (lc ec : Nat) (hlc : lc ≤ 12) (hec : ec ≤ 24) (hLL : ∀ i, i < 12 → (LL i).2.2 ≤ 40) (hEE : ∀ q, q < ec → (EE q).1 = nI (LN q) ∧ LN q < lc ∧ (EE q).2.2.1 ≤ 40 ∧ (EE q).2.2.2.1 ≤ 8) (q : Nat) (hq : q < ec) (j : Nat) (hj : j < (LL (LN q)).2.2) (hc : chD LL EE LN q = nI j) : pM g l yX2_changedSign wsX2_changedSign { frames := 7, cells := 0, slots := 0, locals := 103 } [.ref (AD 0), .int (nI q)] (fun H => va_P (gD g) vwCl (wsD g AD LL EE lc ec) H) (.int ((LL (LN q)).1 j + ((EE q).2.2.2.2.1 - smF (LL (LN q)).1 (LL (LN q)).2.2))) := by
  refine pu_ofI (cc := cX2_changedSign) (maxL := 5) (by decide) rfl (Nat.le_of_ble_eq_true rfl) ?_
  intro p e s m args below meth c H ls Q hx hb hml hts hown hK hP hl hret
  have hl : lv_has ls 5 [(0, .ref (AD 0)), (1, .int (nI q))] := hl
  have S : CallFix p m c cX2_changedSign 5 s args wsX2_changedSign RX2 := ⟨hx, hb, hml, hown, hts⟩
  have hq40 := hLL (LN q) (by have := (hEE q hq).2.1; omega)
  have iX0 : ∀ w ∈ u_ws RX0 TX0 8, w ∈ wsX2_changedSign := by decide +kernel
  have iX1 : ∀ w ∈ u_ws RX1 TX1 3, w ∈ wsX2_changedSign := by decide +kernel
  have iX2 : ∀ w ∈ u_ws RX2 TX2 4, w ∈ wsX2_changedSign := by decide +kernel
  have f11 := hts (.fieldLink RX2 11 "LetterSeals" "letterRow" "[LLetterSeals$Letter;") (by decide +kernel)
  have n66 : (Cond.fieldLinkNest RX2 66 "LetterSeals$Letter" "signs" "[I" "LetterSeals").before args s = true := va_Nw.use rfl (hK.2.1 ("LetterSeals", 66, "LetterSeals$Letter", "signs", "[I") (List.mem_of_getElem? (i := 0) rfl))
  have n133 : (Cond.fieldLinkNest RX2 133 "LetterSeals$Envelope" "letterNumber" "I" "LetterSeals").before args s = true := va_Nw.use rfl (hK.2.1 ("LetterSeals", 133, "LetterSeals$Envelope", "letterNumber", "I") (List.mem_of_getElem? (i := 4) rfl))
  refine lv_aload_n hx hb dX2_changedSign_0 rfl (lv_at hl 0 rfl) ?_
  refine lv_iload_n hx hb dX2_changedSign_1 rfl (lv_at hl 1 rfl) ?_
  refine p_V (As := [.int (nI q)]) (rest := []) S (c_X2_requireEnvelope l g AD LL EE LN lc ec hlc hec hLL hEE q hq) (cwV 1 hts gX2_changedSign_X2_requireEnvelope rfl rfl rfl (by decide +kernel) ⟨Nat.le_of_ble_eq_true rfl, Nat.le_of_ble_eq_true rfl⟩) hK (va_recv hK.1 hP (ci := 2) (q0 := 0) rfl dk_me) (hP) rfl hl.1 rfl (Nat.le_of_ble_eq_true rfl) dX2_changedSign_2 ⟨Nat.le_of_ble_eq_true rfl, Nat.le_of_ble_eq_true rfl⟩ ?_
  refine lv_astore_n (lv' := [(2, .ref (AD (39 + 2 * q))), (0, .ref (AD 0)), (1, .int (nI q))]) hx hb dX2_changedSign_5 rfl hl (by decide) rfl (fun ls hl => ?_)
  refine lv_aload_n hx hb dX2_changedSign_6 rfl (lv_at hl 1 rfl) ?_
  refine va_get (D := gD g) (ci := 2) (v := .ref (AD 1)) (C := RX2) (T := TX2) (N := 4) hx hb hts iX2 hown hK.1 hP 0 dk_me rfl 0 (by decide) f11 (fun _ h9 => h9) rfl dX2_changedSign_7 ?_
  refine lv_aload_n hx hb dX2_changedSign_10 rfl (lv_at hl 0 rfl) ?_
  have hE1 := dk_env hP (q := q) (by omega)
  refine va_getN (D := gD g) (ci := 0) (v := .int ((EE q).1)) (C := RX0) (T := TX0) (N := 8) hx hb hts iX0 hown hK.1 hE1 0 rfl rfl 1 (by decide) n133 (fun _ h9 => h9) rfl dX2_changedSign_11 ?_
  have hln := (hEE q hq).2.1
  refine lv_toI (z := nI (LN q)) ((hEE q hq).1) ?_
  refine ld_Q (C := "LetterSeals$Letter") (k := LN q) (n := 12) (f := fun i => some (AD (3 + 3 * i))) (r := AD (3 + 3 * (LN q))) hx hb hK.1 hP 1 1 dk_lr rfl (by omega) (by decide) rfl dX2_changedSign_14 ?_
  refine lv_astore_n (lv' := [(3, .ref (AD (3 + 3 * (LN q)))), (2, .ref (AD (39 + 2 * q))), (0, .ref (AD 0)), (1, .int (nI q))]) hx hb dX2_changedSign_15 rfl hl (by decide) rfl (fun ls hl => ?_)
  refine lv_aload_n hx hb dX2_changedSign_16 rfl (lv_at hl 1 rfl) ?_
  refine lv_aload_n hx hb dX2_changedSign_17 rfl (lv_at hl 0 rfl) ?_
  have hL2 := dk_letter hP (i := LN q) (by omega)
  refine p_V (As := [.ref (AD (3 + 3 * (LN q)))]) (rest := []) S (c_X0_placeOfChange l g (AD (39 + 2 * q)) (AD (40 + 2 * q)) (EE q).1 (EE q).2.1 (EE q).2.2.1 (EE q).2.2.2.1 (EE q).2.2.2.2.1 (EE q).2.2.2.2.2.1 (EE q).2.2.2.2.2.2.1 (EE q).2.2.2.2.2.2.2 (hEE q (by omega)).2.2.1 (hEE q (by omega)).2.2.2 (AD (3 + 3 * (LN q))) (AD (4 + 3 * (LN q))) (AD (5 + 3 * (LN q))) ((LL (LN q)).1) ((LL (LN q)).2.1) ((LL (LN q)).2.2) (hLL _ (by omega))) (cwV 1 hts gX2_changedSign_X0_placeOfChange rfl rfl rfl (by decide +kernel) ⟨Nat.le_of_ble_eq_true rfl, Nat.le_of_ble_eq_true rfl⟩) hK (va_recv hK.1 hE1 (ci := 0) (q0 := 0) rfl rfl) (⟨hE1, hL2⟩) rfl hl.1 rfl (Nat.le_of_ble_eq_true rfl) dX2_changedSign_18 ⟨Nat.le_of_ble_eq_true rfl, Nat.le_of_ble_eq_true rfl⟩ ?_
  refine lv_toI (z := chD LL EE LN q) (rfl) ?_
  refine lv_toI (z := nI j) (hc) ?_
  refine lv_istore (lv' := [(4, .int (nI j)), (3, .ref (AD (3 + 3 * (LN q)))), (2, .ref (AD (39 + 2 * q))), (0, .ref (AD 0)), (1, .int (nI q))]) hx hb dX2_changedSign_21 hl (by decide) rfl (fun ls hl => ?_)
  refine lv_iload hx hb dX2_changedSign_23 (lv_at hl 0 rfl) ?_
  refine br_ge0 (a := j) (tgt := 38) hx hb (by omega) dX2_changedSign_25 (by decide) (fun c25 => ?_) (fun c25 => ?_)
  · refine lv_aload_n hx hb dX2_changedSign_38 rfl (lv_at hl 1 rfl) ?_
    refine va_getN (D := gD g) (ci := 1) (v := .ref (AD (4 + 3 * (LN q)))) (C := RX1) (T := TX1) (N := 3) hx hb hts iX1 hown hK.1 hL2 0 rfl rfl 0 (by decide) n66 (fun _ h9 => h9) rfl dX2_changedSign_39 ?_
    refine lv_iload hx hb dX2_changedSign_42 (lv_at hl 0 rfl) ?_
    refine ld_I (k := j) (n := 40) (f := (LL (LN q)).1) hx hb hK.1 hL2 1 rfl (by omega) (by omega) dX2_changedSign_44 ?_
    refine lv_aload_n hx hb dX2_changedSign_45 rfl (lv_at hl 2 rfl) ?_
    refine lv_aload_n hx hb dX2_changedSign_46 rfl (lv_at hl 1 rfl) ?_
    refine p_V (As := [.ref (AD (3 + 3 * (LN q)))]) (rest := [.int (((LL (LN q)).1) (j))]) S (c_X0_lostInSum l g (AD (39 + 2 * q)) (AD (40 + 2 * q)) (EE q).1 (EE q).2.1 (EE q).2.2.1 (EE q).2.2.2.1 (EE q).2.2.2.2.1 (EE q).2.2.2.2.2.1 (EE q).2.2.2.2.2.2.1 (EE q).2.2.2.2.2.2.2 (hEE q (by omega)).2.2.1 (hEE q (by omega)).2.2.2 (AD (3 + 3 * (LN q))) (AD (4 + 3 * (LN q))) (AD (5 + 3 * (LN q))) ((LL (LN q)).1) ((LL (LN q)).2.1) ((LL (LN q)).2.2) (hLL _ (by omega))) (cwV 1 hts gX2_changedSign_X0_lostInSum rfl rfl rfl (by decide +kernel) ⟨Nat.le_of_ble_eq_true rfl, Nat.le_of_ble_eq_true rfl⟩) hK (va_recv hK.1 hE1 (ci := 0) (q0 := 0) rfl rfl) (⟨hE1, hL2⟩) rfl hl.1 rfl (Nat.le_of_ble_eq_true rfl) dX2_changedSign_47 ⟨Nat.le_of_ble_eq_true rfl, Nat.le_of_ble_eq_true rfl⟩ ?_
    refine lv_iadd hx hb dX2_changedSign_50 ?_
    exact hret _ _ dX2_changedSign_51
  · exact c25.elim

set_option maxHeartbeats 4000000 in
set_option maxRecDepth 100000 in
/-- changedSign_x -/
theorem c_X2_changedSign_x (l : Launch) (hlt : l.stackTraces = false) (g : gT) (AD : Nat → Nat) (LL : Nat → ltT) (EE : Nat → evT) (LN : Nat → Nat) (lc ec : Nat) (hlc : lc ≤ 12) (hec : ec ≤ 24) (hLL : ∀ i, i < 12 → (LL i).2.2 ≤ 40) (hEE : ∀ q, q < ec → (EE q).1 = nI (LN q) ∧ LN q < lc ∧ (EE q).2.2.1 ≤ 40 ∧ (EE q).2.2.2.1 ≤ 8) (x : Int32) (hxb : inB x ec = false) : xM g l yX2_changedSign wsX2_changedSign { frames := 7, cells := 1, slots := 6, locals := 103 } [.ref (AD 0), .int (x)] (fun H => va_P (gD g) vwCl (wsD g AD LL EE lc ec) H) "java/lang/IndexOutOfBoundsException" := by
  refine xr_of (cc := cX2_changedSign) (maxL := 5) (ret := (some .int)) (by decide) rfl (Nat.le_of_ble_eq_true rfl) ?_
  intro p e s m args below meth c ls hx hb hml hts hown hK hP hZ hlocks ht hl
  have hl : lv_has ls 5 [(0, .ref (AD 0)), (1, .int (x))] := hl
  have S : CallFix p m c cX2_changedSign 5 s args wsX2_changedSign RX2 := ⟨hx, hb, hml, hown, hts⟩
  refine lv_aload_n hx hb dX2_changedSign_0 rfl (lv_at hl 0 rfl) ?_
  refine lv_iload_n hx hb dX2_changedSign_1 rfl (lv_at hl 1 rfl) ?_
  exact x_V (As := [.int (x)]) (rest := []) S (c_X2_requireEnvelope_x l hlt g AD LL EE LN lc ec hlc hec hLL hEE x hxb) (cwV 1 hts gX2_changedSign_X2_requireEnvelope rfl rfl rfl (by decide +kernel) ⟨Nat.le_of_ble_eq_true rfl, Nat.le_of_ble_eq_true rfl⟩) hK hZ (va_recv hK.1 hP (ci := 2) (q0 := 0) rfl dk_me) (hP) rfl hl.1 rfl (Nat.le_of_ble_eq_true rfl) dX2_changedSign_2 ⟨Nat.le_of_ble_eq_true rfl, Nat.le_of_ble_eq_true rfl⟩ ht hlocks

set_option maxHeartbeats 4000000 in
set_option maxRecDepth 100000 in
/-- changedSign_s -/
theorem c_X2_changedSign_s (l : Launch) (hlt : l.stackTraces = false) (g : gT) (AD : Nat → Nat) (LL : Nat → ltT) (EE : Nat → evT) (LN : Nat → Nat) (lc ec : Nat) (hlc : lc ≤ 12) (hec : ec ≤ 24) (hLL : ∀ i, i < 12 → (LL i).2.2 ≤ 40) (hEE : ∀ q, q < ec → (EE q).1 = nI (LN q) ∧ LN q < lc ∧ (EE q).2.2.1 ≤ 40 ∧ (EE q).2.2.2.1 ≤ 8) (q : Nat) (hq : q < ec) (hc : chD LL EE LN q = -1) : xM g l yX2_changedSign wsX2_changedSign { frames := 7, cells := 1, slots := 6, locals := 103 } [.ref (AD 0), .int (nI q)] (fun H => va_P (gD g) vwCl (wsD g AD LL EE lc ec) H) "java/lang/IllegalStateException" := by
  refine xr_of (cc := cX2_changedSign) (maxL := 5) (ret := (some .int)) (by decide) rfl (Nat.le_of_ble_eq_true rfl) ?_
  intro p e s m args below meth c ls hx hb hml hts hown hK hP hZ hlocks ht hl
  have hl : lv_has ls 5 [(0, .ref (AD 0)), (1, .int (nI q))] := hl
  have S : CallFix p m c cX2_changedSign 5 s args wsX2_changedSign RX2 := ⟨hx, hb, hml, hown, hts⟩
  have iX0 : ∀ w ∈ u_ws RX0 TX0 8, w ∈ wsX2_changedSign := by decide +kernel
  have iX2 : ∀ w ∈ u_ws RX2 TX2 4, w ∈ wsX2_changedSign := by decide +kernel
  have f11 := hts (.fieldLink RX2 11 "LetterSeals" "letterRow" "[LLetterSeals$Letter;") (by decide +kernel)
  have n133 : (Cond.fieldLinkNest RX2 133 "LetterSeals$Envelope" "letterNumber" "I" "LetterSeals").before args s = true := va_Nw.use rfl (hK.2.1 ("LetterSeals", 133, "LetterSeals$Envelope", "letterNumber", "I") (List.mem_of_getElem? (i := 4) rfl))
  refine lv_aload_n hx hb dX2_changedSign_0 rfl (lv_at hl 0 rfl) ?_
  refine lv_iload_n hx hb dX2_changedSign_1 rfl (lv_at hl 1 rfl) ?_
  refine p_V (As := [.int (nI q)]) (rest := []) S (c_X2_requireEnvelope l g AD LL EE LN lc ec hlc hec hLL hEE q hq) (cwV 1 hts gX2_changedSign_X2_requireEnvelope rfl rfl rfl (by decide +kernel) ⟨Nat.le_of_ble_eq_true rfl, Nat.le_of_ble_eq_true rfl⟩) hK (va_recv hK.1 hP (ci := 2) (q0 := 0) rfl dk_me) (hP) rfl hl.1 rfl (Nat.le_of_ble_eq_true rfl) dX2_changedSign_2 ⟨Nat.le_of_ble_eq_true rfl, Nat.le_of_ble_eq_true rfl⟩ ?_
  refine lv_astore_n (lv' := [(2, .ref (AD (39 + 2 * q))), (0, .ref (AD 0)), (1, .int (nI q))]) hx hb dX2_changedSign_5 rfl hl (by decide) rfl (fun ls hl => ?_)
  refine lv_aload_n hx hb dX2_changedSign_6 rfl (lv_at hl 1 rfl) ?_
  refine va_get (D := gD g) (ci := 2) (v := .ref (AD 1)) (C := RX2) (T := TX2) (N := 4) hx hb hts iX2 hown hK.1 hP 0 dk_me rfl 0 (by decide) f11 (fun _ h9 => h9) rfl dX2_changedSign_7 ?_
  refine lv_aload_n hx hb dX2_changedSign_10 rfl (lv_at hl 0 rfl) ?_
  have hE1 := dk_env hP (q := q) (by omega)
  refine va_getN (D := gD g) (ci := 0) (v := .int ((EE q).1)) (C := RX0) (T := TX0) (N := 8) hx hb hts iX0 hown hK.1 hE1 0 rfl rfl 1 (by decide) n133 (fun _ h9 => h9) rfl dX2_changedSign_11 ?_
  have hln := (hEE q hq).2.1
  refine lv_toI (z := nI (LN q)) ((hEE q hq).1) ?_
  refine ld_Q (C := "LetterSeals$Letter") (k := LN q) (n := 12) (f := fun i => some (AD (3 + 3 * i))) (r := AD (3 + 3 * (LN q))) hx hb hK.1 hP 1 1 dk_lr rfl (by omega) (by decide) rfl dX2_changedSign_14 ?_
  refine lv_astore_n (lv' := [(3, .ref (AD (3 + 3 * (LN q)))), (2, .ref (AD (39 + 2 * q))), (0, .ref (AD 0)), (1, .int (nI q))]) hx hb dX2_changedSign_15 rfl hl (by decide) rfl (fun ls hl => ?_)
  refine lv_aload_n hx hb dX2_changedSign_16 rfl (lv_at hl 1 rfl) ?_
  refine lv_aload_n hx hb dX2_changedSign_17 rfl (lv_at hl 0 rfl) ?_
  have hL2 := dk_letter hP (i := LN q) (by omega)
  refine p_V (As := [.ref (AD (3 + 3 * (LN q)))]) (rest := []) S (c_X0_placeOfChange l g (AD (39 + 2 * q)) (AD (40 + 2 * q)) (EE q).1 (EE q).2.1 (EE q).2.2.1 (EE q).2.2.2.1 (EE q).2.2.2.2.1 (EE q).2.2.2.2.2.1 (EE q).2.2.2.2.2.2.1 (EE q).2.2.2.2.2.2.2 (hEE q (by omega)).2.2.1 (hEE q (by omega)).2.2.2 (AD (3 + 3 * (LN q))) (AD (4 + 3 * (LN q))) (AD (5 + 3 * (LN q))) ((LL (LN q)).1) ((LL (LN q)).2.1) ((LL (LN q)).2.2) (hLL _ (by omega))) (cwV 1 hts gX2_changedSign_X0_placeOfChange rfl rfl rfl (by decide +kernel) ⟨Nat.le_of_ble_eq_true rfl, Nat.le_of_ble_eq_true rfl⟩) hK (va_recv hK.1 hE1 (ci := 0) (q0 := 0) rfl rfl) (⟨hE1, hL2⟩) rfl hl.1 rfl (Nat.le_of_ble_eq_true rfl) dX2_changedSign_18 ⟨Nat.le_of_ble_eq_true rfl, Nat.le_of_ble_eq_true rfl⟩ ?_
  refine lv_toI (z := chD LL EE LN q) (rfl) ?_
  refine lv_toI (z := (-1)) (hc) ?_
  refine lv_istore (lv' := [(4, .int ((-1))), (3, .ref (AD (3 + 3 * (LN q)))), (2, .ref (AD (39 + 2 * q))), (0, .ref (AD 0)), (1, .int (nI q))]) hx hb dX2_changedSign_21 hl (by decide) rfl (fun ls hl => ?_)
  refine lv_iload hx hb dX2_changedSign_23 (lv_at hl 0 rfl) ?_
  refine lv_if_ge (tgt := 38) hx hb dX2_changedSign_25 (by decide) (fun c25 => ?_) (fun c25 => ?_)
  · exact absurd c25 (by decide +kernel)
  · exact x_throw (E := "java/lang/IllegalStateException") (text := "no one sign was changed") (ik := 45) (is := 151) (ic := 49) hx hb hlt hown hts (by decide +kernel) (by decide +kernel) (by decide +kernel) (by decide +kernel) (by decide +kernel) (by decide +kernel) hK (List.mem_of_getElem? (i := 2) rfl) (List.mem_of_getElem? (i := 14) rfl) hZ (hl.1.trans hml.symm) dX2_changedSign_28 dX2_changedSign_31 dX2_changedSign_32 dX2_changedSign_34 dX2_changedSign_37 ht (Nat.le_of_ble_eq_true rfl) (Nat.le_of_ble_eq_true rfl) (Nat.le_of_ble_eq_true rfl) (Nat.le_of_ble_eq_true rfl) hlocks

set_option maxHeartbeats 4000000 in
set_option maxRecDepth 100000 in
/-- firstBroken -/
theorem c_X2_firstBroken (l : Launch) (g : gT) (AD : Nat → Nat) (LL : Nat → ltT) (EE : Nat → evT) (LN : Nat → Nat) (lc ec : Nat) (hlc : lc ≤ 12) (hec : ec ≤ 24) (hLL : ∀ i, i < 12 → (LL i).2.2 ≤ 40) (hEE : ∀ q, q < ec → (EE q).1 = nI (LN q) ∧ LN q < lc ∧ (EE q).2.2.1 ≤ 40 ∧ (EE q).2.2.2.1 ≤ 8) : pM g l yX2_firstBroken wsX2_firstBroken { frames := 2, cells := 0, slots := 0, locals := 43 } [.ref (AD 0)] (fun H => va_P (gD g) vwCl (wsD g AD LL EE lc ec) H) (.int (fsF (fun q => !ftD LL EE LN q) ec 0)) := by
  refine pu_ofI (cc := cX2_firstBroken) (maxL := 3) (by decide) rfl (Nat.le_of_ble_eq_true rfl) ?_
  intro p e s m args below meth c H ls Q hx hb hml hts hown hK hP hl hret
  have hl : lv_has ls 3 [(0, .ref (AD 0))] := hl
  have S : CallFix p m c cX2_firstBroken 3 s args wsX2_firstBroken RX2 := ⟨hx, hb, hml, hown, hts⟩
  have iX0 : ∀ w ∈ u_ws RX0 TX0 8, w ∈ wsX2_firstBroken := by decide +kernel
  have iX2 : ∀ w ∈ u_ws RX2 TX2 4, w ∈ wsX2_firstBroken := by decide +kernel
  have f11 := hts (.fieldLink RX2 11 "LetterSeals" "letterRow" "[LLetterSeals$Letter;") (by decide +kernel)
  have f17 := hts (.fieldLink RX2 17 "LetterSeals" "envelopeRow" "[LLetterSeals$Envelope;") (by decide +kernel)
  have f84 := hts (.fieldLink RX2 84 "LetterSeals" "envelopeCount" "I") (by decide +kernel)
  have n133 : (Cond.fieldLinkNest RX2 133 "LetterSeals$Envelope" "letterNumber" "I" "LetterSeals").before args s = true := va_Nw.use rfl (hK.2.1 ("LetterSeals", 133, "LetterSeals$Envelope", "letterNumber", "I") (List.mem_of_getElem? (i := 4) rfl))
  refine lv_iconst (v := nI (0)) hx hb dX2_firstBroken_0 (by decide +kernel) ?_
  refine lv_istore_n (lv' := [(1, .int (nI (0))), (0, .ref (AD 0))]) hx hb dX2_firstBroken_1 rfl hl (by decide) rfl (fun ls hl => ?_)
  have L2 : ∀ (k1 i : Nat) (ls : Array Slot), ec - i < k1 → i ≤ ec → (fsF (fun q => !ftD LL EE LN q) ec 0 = fsF (fun q => !ftD LL EE LN q) (ec - i) i) → lv_has ls 3 [(1, .int (nI i)), (0, .ref (AD 0))] → W p l e { frames := 2, cells := 0, slots := 0, locals := 43 } s m args below meth c H [] 0 0 Q (F0 m 2 ls []) := by
    intro k1
    induction k1 with
    | zero => intro i ls hFu; exact absurd hFu (Nat.not_lt_zero _)
    | succ k1 ih1 =>
      intro i ls hFu hLe he hl
      refine lv_iload_n hx hb dX2_firstBroken_2 rfl (lv_at hl 0 rfl) ?_
      refine lv_aload_n hx hb dX2_firstBroken_3 rfl (lv_at hl 1 rfl) ?_
      refine va_get (D := gD g) (ci := 2) (v := .int (nI (ec))) (C := RX2) (T := TX2) (N := 4) hx hb hts iX2 hown hK.1 hP 0 dk_me rfl 3 (by decide) f84 (fun _ h9 => h9) rfl dX2_firstBroken_4 ?_
      refine br_ge (a := i) (b := ec) (tgt := 41) hx hb (by omega) (by omega) dX2_firstBroken_7 (by decide) (fun c7 => ?_) (fun c7 => ?_)
      · refine lv_iconst (v := (-1)) hx hb dX2_firstBroken_41 (by decide +kernel) ?_
        refine lv_toI (z := fsF (fun q => !ftD LL EE LN q) ec 0) (by rw [he, show ec - i = 0 by omega]; rfl) ?_
        exact hret _ _ dX2_firstBroken_42
      · refine lv_aload_n hx hb dX2_firstBroken_10 rfl (lv_at hl 1 rfl) ?_
        refine va_get (D := gD g) (ci := 2) (v := .ref (AD 2)) (C := RX2) (T := TX2) (N := 4) hx hb hts iX2 hown hK.1 hP 0 dk_me rfl 1 (by decide) f17 (fun _ h9 => h9) rfl dX2_firstBroken_11 ?_
        refine lv_iload_n hx hb dX2_firstBroken_14 rfl (lv_at hl 0 rfl) ?_
        refine ld_Q (C := "LetterSeals$Envelope") (k := i) (n := 24) (f := fun q => some (AD (39 + 2 * q))) (r := AD (39 + 2 * i)) hx hb hK.1 hP 2 2 dk_er rfl (by omega) (by decide) rfl dX2_firstBroken_15 ?_
        refine lv_astore_n (lv' := [(2, .ref (AD (39 + 2 * i))), (1, .int (nI i)), (0, .ref (AD 0))]) hx hb dX2_firstBroken_16 rfl hl (by decide) rfl (fun ls hl => ?_)
        refine lv_aload_n hx hb dX2_firstBroken_17 rfl (lv_at hl 0 rfl) ?_
        refine lv_aload_n hx hb dX2_firstBroken_18 rfl (lv_at hl 2 rfl) ?_
        refine va_get (D := gD g) (ci := 2) (v := .ref (AD 1)) (C := RX2) (T := TX2) (N := 4) hx hb hts iX2 hown hK.1 hP 0 dk_me rfl 0 (by decide) f11 (fun _ h9 => h9) rfl dX2_firstBroken_19 ?_
        refine lv_aload_n hx hb dX2_firstBroken_22 rfl (lv_at hl 0 rfl) ?_
        have hE2 := dk_env hP (q := i) (by omega)
        refine va_getN (D := gD g) (ci := 0) (v := .int ((EE i).1)) (C := RX0) (T := TX0) (N := 8) hx hb hts iX0 hown hK.1 hE2 0 rfl rfl 1 (by decide) n133 (fun _ h9 => h9) rfl dX2_firstBroken_23 ?_
        have hln := (hEE i (by omega)).2.1
        refine lv_toI (z := nI (LN i)) ((hEE i (by omega)).1) ?_
        refine ld_Q (C := "LetterSeals$Letter") (k := LN i) (n := 12) (f := fun i => some (AD (3 + 3 * i))) (r := AD (3 + 3 * (LN i))) hx hb hK.1 hP 1 1 dk_lr rfl (by omega) (by decide) rfl dX2_firstBroken_26 ?_
        have hL3 := dk_letter hP (i := LN i) (by omega)
        refine p_V (As := [.ref (AD (3 + 3 * (LN i)))]) (rest := []) S (c_X0_fits l g (AD (39 + 2 * i)) (AD (40 + 2 * i)) (EE i).1 (EE i).2.1 (EE i).2.2.1 (EE i).2.2.2.1 (EE i).2.2.2.2.1 (EE i).2.2.2.2.2.1 (EE i).2.2.2.2.2.2.1 (EE i).2.2.2.2.2.2.2 (hEE i (by omega)).2.2.1 (hEE i (by omega)).2.2.2 (AD (3 + 3 * (LN i))) (AD (4 + 3 * (LN i))) (AD (5 + 3 * (LN i))) ((LL (LN i)).1) ((LL (LN i)).2.1) ((LL (LN i)).2.2) (hLL _ (by omega))) (cwV 1 hts gX2_firstBroken_X0_fits rfl rfl rfl (by decide +kernel) ⟨Nat.le_of_ble_eq_true rfl, Nat.le_of_ble_eq_true rfl⟩) hK (va_recv hK.1 hE2 (ci := 0) (q0 := 0) rfl rfl) (⟨hE2, hL3⟩) rfl hl.1 rfl (Nat.le_of_ble_eq_true rfl) dX2_firstBroken_27 ⟨Nat.le_of_ble_eq_true rfl, Nat.le_of_ble_eq_true rfl⟩ ?_
        refine lv_toI (z := bI (ftD LL EE LN i)) (rfl) ?_
        refine br_neB (tgt := 35) hx hb dX2_firstBroken_30 (by decide) (fun c30 => ?_) (fun c30 => ?_)
        · refine lv_iinc (v := nI (i + 1)) (lv' := [(1, .int (nI (i + 1))), (2, .ref (AD (39 + 2 * i))), (0, .ref (AD 0))]) hx hb dX2_firstBroken_35 hl (k := 1) rfl (nI_1 _) (by decide) rfl (fun ls hl => ?_)
          refine lv_goto (tgt := 2) hx hb dX2_firstBroken_38 (by decide) ?_
          exact ih1 (i + 1) _ (by omega) (by omega) (he.trans (fsF_no c7 (by show (!ftD LL EE LN i) = false; rw [c30]; rfl))) (lv_sub hl [0, 2] rfl)
        · refine lv_iload_n hx hb dX2_firstBroken_33 rfl (lv_at hl 1 rfl) ?_
          refine lv_toI (z := fsF (fun q => !ftD LL EE LN q) ec 0) ((he.trans (fsF_yes (by omega) (by show (!ftD LL EE LN i) = true; rw [c30]; rfl))).symm) ?_
          exact hret _ _ dX2_firstBroken_34
  exact L2 (ec + 1) (0) _ (by omega) (by omega) (rfl) (lv_sub hl [0, 1] rfl)

set_option maxHeartbeats 4000000 in
set_option maxRecDepth 100000 in
/-- unseal -/
theorem c_X2_unseal (l : Launch) (g : gT) (AD : Nat → Nat) (LL : Nat → ltT) (EE : Nat → evT) (LN : Nat → Nat) (lc ec : Nat) (hlc : lc ≤ 12) (hec : ec ≤ 24) (hLL : ∀ i, i < 12 → (LL i).2.2 ≤ 40) (hEE : ∀ q, q < ec → (EE q).1 = nI (LN q) ∧ LN q < lc ∧ (EE q).2.2.1 ≤ 40 ∧ (EE q).2.2.2.1 ≤ 8) (he1 : 0 < ec) : wM g l yX2_unseal wsX2_unseal { frames := 0, cells := 0, slots := 0, locals := 0 } [.ref (AD 0)] (wsD g AD LL EE lc ec) (some (.int ((EE (ec - 1)).2.2.2.2.2.2.1))) (wsD g AD LL EE lc (ec - 1)) := by
  refine wr_ofI (cc := cX2_unseal) (maxL := 1) (by decide) rfl (Nat.le_of_ble_eq_true rfl) ?_
  intro p e s m args below meth c H0 ls A Q hx hb hml hts hown hK hP hD hS hl hret
  have hl : lv_has ls 1 [(0, .ref (AD 0))] := hl
  have S : CallFix p m c cX2_unseal 1 s args wsX2_unseal RX2 := ⟨hx, hb, hml, hown, hts⟩
  have iX0 : ∀ w ∈ u_ws RX0 TX0 8, w ∈ wsX2_unseal := by decide +kernel
  have iX2 : ∀ w ∈ u_ws RX2 TX2 4, w ∈ wsX2_unseal := by decide +kernel
  have f17 := hts (.fieldLink RX2 17 "LetterSeals" "envelopeRow" "[LLetterSeals$Envelope;") (by decide +kernel)
  have f84 := hts (.fieldLink RX2 84 "LetterSeals" "envelopeCount" "I") (by decide +kernel)
  have n98 : (Cond.fieldLinkNest RX2 98 "LetterSeals$Envelope" "seal" "I" "LetterSeals").before args s = true := va_Nw.use rfl (hK.2.1 ("LetterSeals", 98, "LetterSeals$Envelope", "seal", "I") (List.mem_of_getElem? (i := 6) rfl))
  obtain ⟨H, eH⟩ : ∃ H : Heap, H = H0 := ⟨_, rfl⟩
  rw [← eH] at hP ⊢
  have hS : va_S A H0 H [] := by rw [eH]; exact hS
  refine lv_aload_n hx hb dX2_unseal_0 rfl (lv_at hl 0 rfl) ?_
  refine va_get (D := gD g) (ci := 2) (v := .int (nI (ec))) (C := RX2) (T := TX2) (N := 4) hx hb hts iX2 hown hK.1 hP 0 dk_me rfl 3 (by decide) f84 (fun _ h9 => h9) rfl dX2_unseal_1 ?_
  refine br_gt0 (a := ec) (tgt := 17) hx hb (by omega) dX2_unseal_4 (by decide) (fun c4 => ?_) (fun c4 => ?_)
  · refine lv_aload_n hx hb dX2_unseal_17 rfl (lv_at hl 0 rfl) ?_
    refine lv_dup hx hb dX2_unseal_18 rfl ?_
    refine va_get (D := gD g) (ci := 2) (v := .int (nI (ec))) (C := RX2) (T := TX2) (N := 4) hx hb hts iX2 hown hK.1 hP 0 dk_me rfl 3 (by decide) f84 (fun _ h9 => h9) rfl dX2_unseal_19 ?_
    refine lv_iconst (v := nI (1)) hx hb dX2_unseal_22 (by decide +kernel) ?_
    refine lv_isub hx hb dX2_unseal_23 ?_
    refine lv_toI (z := nI (ec - 1)) (pk_sub (by omega)) ?_
    refine va_put (D := gD g) (ci := 2) (v := .int (nI (ec - 1))) (ty := .int) (C := RX2) (T := TX2) (N := 4) hx hb hts iX2 tyX2 tyX2_ok nmX2 hown hK.1 hP hD hS 0 dk_me rfl 3 (by decide) f84 (fun _ h9 => h9) rfl (by decide +kernel) rfl rfl (Nat.le_of_ble_eq_true rfl) dX2_unseal_24 (fun H locs hP _ hS => ?_)
    have hP : va_P (gD g) vwCl (wsD g AD LL EE lc (ec - 1)) H := dk_setP hP rfl
    have hD : va_D A (wsD g AD LL EE lc (ec - 1)) := dk_Dsame hD
    refine lv_aload_n hx hb dX2_unseal_27 rfl (lv_at hl 0 rfl) ?_
    refine va_get (D := gD g) (ci := 2) (v := .ref (AD 2)) (C := RX2) (T := TX2) (N := 4) hx hb hts iX2 hown hK.1 hP 0 dk_me rfl 1 (by decide) f17 (fun _ h9 => h9) rfl dX2_unseal_28 ?_
    refine lv_aload_n hx hb dX2_unseal_31 rfl (lv_at hl 0 rfl) ?_
    refine va_get (D := gD g) (ci := 2) (v := .int (nI (ec - 1))) (C := RX2) (T := TX2) (N := 4) hx hb hts iX2 hown hK.1 hP 0 dk_me rfl 3 (by decide) f84 (fun _ h9 => h9) rfl dX2_unseal_32 ?_
    refine ld_Q (C := "LetterSeals$Envelope") (k := ec - 1) (n := 24) (f := fun q => some (AD (39 + 2 * q))) (r := AD (39 + 2 * (ec - 1))) hx hb hK.1 hP 2 2 dk_er rfl (by omega) (by decide) rfl dX2_unseal_35 ?_
    have hE1 := dk_env hP (q := ec - 1) (by omega)
    refine va_getN (D := gD g) (ci := 0) (v := .int ((EE (ec - 1)).2.2.2.2.2.2.1)) (C := RX0) (T := TX0) (N := 8) hx hb hts iX0 hown hK.1 hE1 0 rfl rfl 7 (by decide) n98 (fun _ h9 => h9) rfl dX2_unseal_36 ?_
    exact hret _ _ _ _ hP hS dX2_unseal_39
  · omega

set_option maxHeartbeats 4000000 in
set_option maxRecDepth 100000 in
/-- unseal_s -/
theorem c_X2_unseal_s (l : Launch) (hlt : l.stackTraces = false) (g : gT) (AD : Nat → Nat) (LL : Nat → ltT) (EE : Nat → evT) (LN : Nat → Nat) (lc ec : Nat) (hlc : lc ≤ 12) (hec : ec ≤ 24) (hLL : ∀ i, i < 12 → (LL i).2.2 ≤ 40) (hEE : ∀ q, q < ec → (EE q).1 = nI (LN q) ∧ LN q < lc ∧ (EE q).2.2.1 ≤ 40 ∧ (EE q).2.2.2.1 ≤ 8) (he1 : ec = 0) : xM g l yX2_unseal wsX2_unseal { frames := 6, cells := 1, slots := 6, locals := 82 } [.ref (AD 0)] (fun H => va_P (gD g) vwCl (wsD g AD LL EE lc ec) H) "java/lang/IllegalStateException" := by
  refine xr_of (cc := cX2_unseal) (maxL := 1) (ret := (some .int)) (by decide) rfl (Nat.le_of_ble_eq_true rfl) ?_
  intro p e s m args below meth c ls hx hb hml hts hown hK hP hZ hlocks ht hl
  have hl : lv_has ls 1 [(0, .ref (AD 0))] := hl
  have S : CallFix p m c cX2_unseal 1 s args wsX2_unseal RX2 := ⟨hx, hb, hml, hown, hts⟩
  have iX2 : ∀ w ∈ u_ws RX2 TX2 4, w ∈ wsX2_unseal := by decide +kernel
  have f84 := hts (.fieldLink RX2 84 "LetterSeals" "envelopeCount" "I") (by decide +kernel)
  refine lv_aload_n hx hb dX2_unseal_0 rfl (lv_at hl 0 rfl) ?_
  refine va_get (D := gD g) (ci := 2) (v := .int (nI (ec))) (C := RX2) (T := TX2) (N := 4) hx hb hts iX2 hown hK.1 hP 0 dk_me rfl 3 (by decide) f84 (fun _ h9 => h9) rfl dX2_unseal_1 ?_
  refine br_gt0 (a := ec) (tgt := 17) hx hb (by omega) dX2_unseal_4 (by decide) (fun c4 => ?_) (fun c4 => ?_)
  · omega
  · exact x_throw (E := "java/lang/IllegalStateException") (text := "there is no envelope") (ik := 45) (is := 96) (ic := 49) hx hb hlt hown hts (by decide +kernel) (by decide +kernel) (by decide +kernel) (by decide +kernel) (by decide +kernel) (by decide +kernel) hK (List.mem_of_getElem? (i := 2) rfl) (List.mem_of_getElem? (i := 10) rfl) hZ (hl.1.trans hml.symm) dX2_unseal_7 dX2_unseal_10 dX2_unseal_11 dX2_unseal_13 dX2_unseal_16 ht (Nat.le_of_ble_eq_true rfl) (Nat.le_of_ble_eq_true rfl) (Nat.le_of_ble_eq_true rfl) (Nat.le_of_ble_eq_true rfl) hlocks

set_option maxHeartbeats 4000000 in
set_option maxRecDepth 100000 in
/-- seal -/
theorem c_X2_seal (l : Launch) (g : gT) (AD : Nat → Nat) (LL : Nat → ltT) (EE : Nat → evT) (LN : Nat → Nat) (lc ec : Nat) (hlc : lc ≤ 12) (hec : ec ≤ 24) (hLL : ∀ i, i < 12 → (LL i).2.2 ≤ 40) (hEE : ∀ q, q < ec → (EE q).1 = nI (LN q) ∧ LN q < lc ∧ (EE q).2.2.1 ≤ 40 ∧ (EE q).2.2.2.1 ≤ 8) (k : Nat) (hk : k < lc) (hn1 : 0 < (LL k).2.2) (he1 : ec < 24) : wM g l yX2_seal wsX2_seal { frames := 7, cells := 0, slots := 0, locals := 103 } [.ref (AD 0), .int (nI k)] (wsD g AD LL EE lc ec) (some (.int (nI ec))) (wsD g AD LL (fup EE ec ((nI k, dgF (LL k).1 (LL k).2.2, (LL k).2.2, ((LL k).2.2 + 4) / 5, smF (LL k).1 (LL k).2.2, wtF (LL k).1 (LL k).2.2, slF (lsD EE ec) (dgF (LL k).1 (LL k).2.2), flF (EE ec).2.2.2.2.2.2.2 (blF (LL k).1 (LL k).2.2) (((LL k).2.2 + 4) / 5)) : evT)) lc (ec + 1)) := by
  refine wr_ofI (cc := cX2_seal) (maxL := 3) (by decide) rfl (Nat.le_of_ble_eq_true rfl) ?_
  intro p e s m args below meth c H0 ls A Q hx hb hml hts hown hK hP hD hS hl hret
  have hl : lv_has ls 3 [(0, .ref (AD 0)), (1, .int (nI k))] := hl
  have S : CallFix p m c cX2_seal 3 s args wsX2_seal RX2 := ⟨hx, hb, hml, hown, hts⟩
  have iX2 : ∀ w ∈ u_ws RX2 TX2 4, w ∈ wsX2_seal := by decide +kernel
  have f17 := hts (.fieldLink RX2 17 "LetterSeals" "envelopeRow" "[LLetterSeals$Envelope;") (by decide +kernel)
  have f84 := hts (.fieldLink RX2 84 "LetterSeals" "envelopeCount" "I") (by decide +kernel)
  obtain ⟨H, eH⟩ : ∃ H : Heap, H = H0 := ⟨_, rfl⟩
  rw [← eH] at hP ⊢
  have hS : va_S A H0 H [] := by rw [eH]; exact hS
  refine lv_aload_n hx hb dX2_seal_0 rfl (lv_at hl 0 rfl) ?_
  refine lv_iload_n hx hb dX2_seal_1 rfl (lv_at hl 1 rfl) ?_
  refine p_V (As := [.int (nI k)]) (rest := []) S (c_X2_requireLetter l g AD LL EE LN lc ec hlc hec hLL hEE k hk) (cwV 1 hts gX2_seal_X2_requireLetter rfl rfl rfl (by decide +kernel) ⟨Nat.le_of_ble_eq_true rfl, Nat.le_of_ble_eq_true rfl⟩) hK (va_recv hK.1 hP (ci := 2) (q0 := 0) rfl dk_me) (hP) rfl hl.1 rfl (Nat.le_of_ble_eq_true rfl) dX2_seal_2 ⟨Nat.le_of_ble_eq_true rfl, Nat.le_of_ble_eq_true rfl⟩ ?_
  refine lv_astore_n (lv' := [(2, .ref (AD (3 + 3 * k))), (0, .ref (AD 0)), (1, .int (nI k))]) hx hb dX2_seal_5 rfl hl (by decide) rfl (fun ls hl => ?_)
  refine lv_aload_n hx hb dX2_seal_6 rfl (lv_at hl 1 rfl) ?_
  refine va_get (D := gD g) (ci := 2) (v := .int (nI (ec))) (C := RX2) (T := TX2) (N := 4) hx hb hts iX2 hown hK.1 hP 0 dk_me rfl 3 (by decide) f84 (fun _ h9 => h9) rfl dX2_seal_7 ?_
  refine lv_bipush (v := nI (24)) hx hb dX2_seal_10 (by decide +kernel) ?_
  refine br_lt (a := ec) (b := 24) (tgt := 25) hx hb (by omega) (by omega) dX2_seal_12 (by decide) (fun c12 => ?_) (fun c12 => ?_)
  · refine lv_aload_n hx hb dX2_seal_25 rfl (lv_at hl 0 rfl) ?_
    have hL1 := dk_letter hP (i := k) (by omega)
    refine p_Sv (As := [.ref (AD (3 + 3 * k))]) (rest := []) S (c_X2_requireSigns l g (AD (3 + 3 * k)) (AD (4 + 3 * k)) (AD (5 + 3 * k)) ((LL k).1) ((LL k).2.1) ((LL k).2.2) (hLL _ (by omega)) hn1) (va_cwS 1 hts gX2_seal_X2_requireSigns rfl rfl rfl (by decide +kernel) ⟨Nat.le_of_ble_eq_true rfl, Nat.le_of_ble_eq_true rfl⟩) hK  (hL1) rfl hl.1 rfl (Nat.le_of_ble_eq_true rfl) dX2_seal_26 ⟨Nat.le_of_ble_eq_true rfl, Nat.le_of_ble_eq_true rfl⟩ ?_
    refine lv_aload_n hx hb dX2_seal_29 rfl (lv_at hl 1 rfl) ?_
    refine va_get (D := gD g) (ci := 2) (v := .ref (AD 2)) (C := RX2) (T := TX2) (N := 4) hx hb hts iX2 hown hK.1 hP 0 dk_me rfl 1 (by decide) f17 (fun _ h9 => h9) rfl dX2_seal_30 ?_
    refine lv_aload_n hx hb dX2_seal_33 rfl (lv_at hl 1 rfl) ?_
    refine va_get (D := gD g) (ci := 2) (v := .int (nI (ec))) (C := RX2) (T := TX2) (N := 4) hx hb hts iX2 hown hK.1 hP 0 dk_me rfl 3 (by decide) f84 (fun _ h9 => h9) rfl dX2_seal_34 ?_
    refine ld_Q (C := "LetterSeals$Envelope") (k := ec) (n := 24) (f := fun q => some (AD (39 + 2 * q))) (r := AD (39 + 2 * ec)) hx hb hK.1 hP 2 2 dk_er rfl (by omega) (by decide) rfl dX2_seal_37 ?_
    refine lv_iload_n hx hb dX2_seal_38 rfl (lv_at hl 2 rfl) ?_
    refine lv_aload_n hx hb dX2_seal_39 rfl (lv_at hl 0 rfl) ?_
    refine lv_aload_n hx hb dX2_seal_40 rfl (lv_at hl 1 rfl) ?_
    refine p_V (As := []) (rest := [.ref (AD (3 + 3 * k)), .int (nI k), .ref (AD (39 + 2 * ec))]) S (c_X2_lastSeal l g AD LL EE LN lc ec hlc hec hLL hEE ) (cwV 0 hts gX2_seal_X2_lastSeal rfl rfl rfl (by decide +kernel) ⟨Nat.le_of_ble_eq_true rfl, Nat.le_of_ble_eq_true rfl⟩) hK (va_recv hK.1 hP (ci := 2) (q0 := 0) rfl dk_me) (hP) rfl hl.1 rfl (Nat.le_of_ble_eq_true rfl) dX2_seal_41 ⟨Nat.le_of_ble_eq_true rfl, Nat.le_of_ble_eq_true rfl⟩ ?_
    have hE2 := dk_env hP (q := ec) (by omega)
    refine w_V (As := [.int (nI k), .ref (AD (3 + 3 * k)), .int (lsD EE ec)]) (rest := []) S (c_X0_fill l g (AD (39 + 2 * ec)) (AD (40 + 2 * ec)) (EE ec).1 (EE ec).2.1 (EE ec).2.2.1 (EE ec).2.2.2.1 (EE ec).2.2.2.2.1 (EE ec).2.2.2.2.2.1 (EE ec).2.2.2.2.2.2.1 (EE ec).2.2.2.2.2.2.2 (AD (3 + 3 * k)) (AD (4 + 3 * k)) (AD (5 + 3 * k)) ((LL k).1) ((LL k).2.1) ((LL k).2.2) (hLL _ (by omega)) (nI k) (lsD EE ec)) (cwV 3 hts gX2_seal_X0_fill rfl rfl rfl (by decide +kernel) ⟨Nat.le_of_ble_eq_true rfl, Nat.le_of_ble_eq_true rfl⟩) hK (va_recv hK.1 hE2 (ci := 0) (q0 := 0) rfl rfl) (va_P.app hE2 hL1) ((dk_evD hD (q := ec) (j := k) (by omega) (by omega)).weaken (fun _ _ _ _ => trivial)) hS (wA_of (dk_evD hD (q := ec) (j := k) (by omega) (by omega))) rfl hl.1 rfl (Nat.le_of_ble_eq_true rfl) dX2_seal_44 ⟨Nat.le_of_ble_eq_true rfl, Nat.le_of_ble_eq_true rfl⟩ (fun H locs hP1 hz1 hk1 hS => ?_)
    have hP : va_P (gD g) vwCl (wsD g AD LL (fup EE ec ((nI k, dgF (LL k).1 (LL k).2.2, (LL k).2.2, ((LL k).2.2 + 4) / 5, smF (LL k).1 (LL k).2.2, wtF (LL k).1 (LL k).2.2, slF (lsD EE ec) (dgF (LL k).1 (LL k).2.2), flF (EE ec).2.2.2.2.2.2.2 (blF (LL k).1 (LL k).2.2) (((LL k).2.2 + 4) / 5)) : evT)) lc ec) H := dk_upE hP hD (q := ec) (j := k) (u := ((nI k, dgF (LL k).1 (LL k).2.2, (LL k).2.2, ((LL k).2.2 + 4) / 5, smF (LL k).1 (LL k).2.2, wtF (LL k).1 (LL k).2.2, slF (lsD EE ec) (dgF (LL k).1 (LL k).2.2), flF (EE ec).2.2.2.2.2.2.2 (blF (LL k).1 (LL k).2.2) (((LL k).2.2 + 4) / 5)) : evT)) (by omega) (by omega) hP1 hk1
    have hD : va_D A (wsD g AD LL (fup EE ec ((nI k, dgF (LL k).1 (LL k).2.2, (LL k).2.2, ((LL k).2.2 + 4) / 5, smF (LL k).1 (LL k).2.2, wtF (LL k).1 (LL k).2.2, slF (lsD EE ec) (dgF (LL k).1 (LL k).2.2), flF (EE ec).2.2.2.2.2.2.2 (blF (LL k).1 (LL k).2.2) (((LL k).2.2 + 4) / 5)) : evT)) lc ec) := dk_Dsame hD
    refine lv_aload_n hx hb dX2_seal_47 rfl (lv_at hl 1 rfl) ?_
    refine lv_dup hx hb dX2_seal_48 rfl ?_
    refine va_get (D := gD g) (ci := 2) (v := .int (nI (ec))) (C := RX2) (T := TX2) (N := 4) hx hb hts iX2 hown hK.1 hP 0 dk_me rfl 3 (by decide) f84 (fun _ h9 => h9) rfl dX2_seal_49 ?_
    refine lv_iconst (v := nI (1)) hx hb dX2_seal_52 (by decide +kernel) ?_
    refine lv_iadd hx hb dX2_seal_53 ?_
    refine lv_toI (z := nI (ec + 1)) (nI_add _ _) ?_
    refine va_put (D := gD g) (ci := 2) (v := .int (nI (ec + 1))) (ty := .int) (C := RX2) (T := TX2) (N := 4) hx hb hts iX2 tyX2 tyX2_ok nmX2 hown hK.1 hP hD hS 0 dk_me rfl 3 (by decide) f84 (fun _ h9 => h9) rfl (by decide +kernel) rfl rfl (Nat.le_of_ble_eq_true rfl) dX2_seal_54 (fun H locs hP _ hS => ?_)
    have hP : va_P (gD g) vwCl (wsD g AD LL (fup EE ec ((nI k, dgF (LL k).1 (LL k).2.2, (LL k).2.2, ((LL k).2.2 + 4) / 5, smF (LL k).1 (LL k).2.2, wtF (LL k).1 (LL k).2.2, slF (lsD EE ec) (dgF (LL k).1 (LL k).2.2), flF (EE ec).2.2.2.2.2.2.2 (blF (LL k).1 (LL k).2.2) (((LL k).2.2 + 4) / 5)) : evT)) lc (ec + 1)) H := dk_setP hP rfl
    have hD : va_D A (wsD g AD LL (fup EE ec ((nI k, dgF (LL k).1 (LL k).2.2, (LL k).2.2, ((LL k).2.2 + 4) / 5, smF (LL k).1 (LL k).2.2, wtF (LL k).1 (LL k).2.2, slF (lsD EE ec) (dgF (LL k).1 (LL k).2.2), flF (EE ec).2.2.2.2.2.2.2 (blF (LL k).1 (LL k).2.2) (((LL k).2.2 + 4) / 5)) : evT)) lc (ec + 1)) := dk_Dsame hD
    refine lv_aload_n hx hb dX2_seal_57 rfl (lv_at hl 1 rfl) ?_
    refine va_get (D := gD g) (ci := 2) (v := .int (nI (ec + 1))) (C := RX2) (T := TX2) (N := 4) hx hb hts iX2 hown hK.1 hP 0 dk_me rfl 3 (by decide) f84 (fun _ h9 => h9) rfl dX2_seal_58 ?_
    refine lv_iconst (v := nI (1)) hx hb dX2_seal_61 (by decide +kernel) ?_
    refine lv_isub hx hb dX2_seal_62 ?_
    refine lv_toI (z := nI (ec + 1 - 1)) (pk_sub (by omega)) ?_
    refine lv_toI (z := nI ec) (by rw [Nat.add_sub_cancel]) ?_
    exact hret _ _ _ _ hP hS dX2_seal_63
  · omega

set_option maxHeartbeats 4000000 in
set_option maxRecDepth 100000 in
/-- seal_x -/
theorem c_X2_seal_x (l : Launch) (hlt : l.stackTraces = false) (g : gT) (AD : Nat → Nat) (LL : Nat → ltT) (EE : Nat → evT) (LN : Nat → Nat) (lc ec : Nat) (hlc : lc ≤ 12) (hec : ec ≤ 24) (hLL : ∀ i, i < 12 → (LL i).2.2 ≤ 40) (hEE : ∀ q, q < ec → (EE q).1 = nI (LN q) ∧ LN q < lc ∧ (EE q).2.2.1 ≤ 40 ∧ (EE q).2.2.2.1 ≤ 8) (x : Int32) (hxb : inB x lc = false) : xM g l yX2_seal wsX2_seal { frames := 7, cells := 1, slots := 6, locals := 103 } [.ref (AD 0), .int (x)] (fun H => va_P (gD g) vwCl (wsD g AD LL EE lc ec) H) "java/lang/IndexOutOfBoundsException" := by
  refine xr_of (cc := cX2_seal) (maxL := 3) (ret := (some .int)) (by decide) rfl (Nat.le_of_ble_eq_true rfl) ?_
  intro p e s m args below meth c ls hx hb hml hts hown hK hP hZ hlocks ht hl
  have hl : lv_has ls 3 [(0, .ref (AD 0)), (1, .int (x))] := hl
  have S : CallFix p m c cX2_seal 3 s args wsX2_seal RX2 := ⟨hx, hb, hml, hown, hts⟩
  refine lv_aload_n hx hb dX2_seal_0 rfl (lv_at hl 0 rfl) ?_
  refine lv_iload_n hx hb dX2_seal_1 rfl (lv_at hl 1 rfl) ?_
  exact x_V (As := [.int (x)]) (rest := []) S (c_X2_requireLetter_x l hlt g AD LL EE LN lc ec hlc hec hLL hEE x hxb) (cwV 1 hts gX2_seal_X2_requireLetter rfl rfl rfl (by decide +kernel) ⟨Nat.le_of_ble_eq_true rfl, Nat.le_of_ble_eq_true rfl⟩) hK hZ (va_recv hK.1 hP (ci := 2) (q0 := 0) rfl dk_me) (hP) rfl hl.1 rfl (Nat.le_of_ble_eq_true rfl) dX2_seal_2 ⟨Nat.le_of_ble_eq_true rfl, Nat.le_of_ble_eq_true rfl⟩ ht hlocks

set_option maxHeartbeats 4000000 in
set_option maxRecDepth 100000 in
/-- seal_s -/
theorem c_X2_seal_s (l : Launch) (hlt : l.stackTraces = false) (g : gT) (AD : Nat → Nat) (LL : Nat → ltT) (EE : Nat → evT) (LN : Nat → Nat) (lc ec : Nat) (hlc : lc ≤ 12) (hec : ec ≤ 24) (hLL : ∀ i, i < 12 → (LL i).2.2 ≤ 40) (hEE : ∀ q, q < ec → (EE q).1 = nI (LN q) ∧ LN q < lc ∧ (EE q).2.2.1 ≤ 40 ∧ (EE q).2.2.2.1 ≤ 8) (k : Nat) (hk : k < lc) (he1 : ec = 24) : xM g l yX2_seal wsX2_seal { frames := 7, cells := 1, slots := 6, locals := 103 } [.ref (AD 0), .int (nI k)] (fun H => va_P (gD g) vwCl (wsD g AD LL EE lc ec) H) "java/lang/IllegalStateException" := by
  refine xr_of (cc := cX2_seal) (maxL := 3) (ret := (some .int)) (by decide) rfl (Nat.le_of_ble_eq_true rfl) ?_
  intro p e s m args below meth c ls hx hb hml hts hown hK hP hZ hlocks ht hl
  have hl : lv_has ls 3 [(0, .ref (AD 0)), (1, .int (nI k))] := hl
  have S : CallFix p m c cX2_seal 3 s args wsX2_seal RX2 := ⟨hx, hb, hml, hown, hts⟩
  have iX2 : ∀ w ∈ u_ws RX2 TX2 4, w ∈ wsX2_seal := by decide +kernel
  have f84 := hts (.fieldLink RX2 84 "LetterSeals" "envelopeCount" "I") (by decide +kernel)
  refine lv_aload_n hx hb dX2_seal_0 rfl (lv_at hl 0 rfl) ?_
  refine lv_iload_n hx hb dX2_seal_1 rfl (lv_at hl 1 rfl) ?_
  refine p_V (As := [.int (nI k)]) (rest := []) S (c_X2_requireLetter l g AD LL EE LN lc ec hlc hec hLL hEE k hk) (cwV 1 hts gX2_seal_X2_requireLetter rfl rfl rfl (by decide +kernel) ⟨Nat.le_of_ble_eq_true rfl, Nat.le_of_ble_eq_true rfl⟩) hK (va_recv hK.1 hP (ci := 2) (q0 := 0) rfl dk_me) (hP) rfl hl.1 rfl (Nat.le_of_ble_eq_true rfl) dX2_seal_2 ⟨Nat.le_of_ble_eq_true rfl, Nat.le_of_ble_eq_true rfl⟩ ?_
  refine lv_astore_n (lv' := [(2, .ref (AD (3 + 3 * k))), (0, .ref (AD 0)), (1, .int (nI k))]) hx hb dX2_seal_5 rfl hl (by decide) rfl (fun ls hl => ?_)
  refine lv_aload_n hx hb dX2_seal_6 rfl (lv_at hl 1 rfl) ?_
  refine va_get (D := gD g) (ci := 2) (v := .int (nI (ec))) (C := RX2) (T := TX2) (N := 4) hx hb hts iX2 hown hK.1 hP 0 dk_me rfl 3 (by decide) f84 (fun _ h9 => h9) rfl dX2_seal_7 ?_
  refine lv_bipush (v := nI (24)) hx hb dX2_seal_10 (by decide +kernel) ?_
  refine br_lt (a := ec) (b := 24) (tgt := 25) hx hb (by omega) (by omega) dX2_seal_12 (by decide) (fun c12 => ?_) (fun c12 => ?_)
  · omega
  · exact x_throw (E := "java/lang/IllegalStateException") (text := "there are 24 envelopes") (ik := 45) (is := 87) (ic := 49) hx hb hlt hown hts (by decide +kernel) (by decide +kernel) (by decide +kernel) (by decide +kernel) (by decide +kernel) (by decide +kernel) hK (List.mem_of_getElem? (i := 2) rfl) (List.mem_of_getElem? (i := 9) rfl) hZ (hl.1.trans hml.symm) dX2_seal_15 dX2_seal_18 dX2_seal_19 dX2_seal_21 dX2_seal_24 ht (Nat.le_of_ble_eq_true rfl) (Nat.le_of_ble_eq_true rfl) (Nat.le_of_ble_eq_true rfl) (Nat.le_of_ble_eq_true rfl) hlocks

set_option maxHeartbeats 4000000 in
set_option maxRecDepth 100000 in
/-- seal_t -/
theorem c_X2_seal_t (l : Launch) (hlt : l.stackTraces = false) (g : gT) (AD : Nat → Nat) (LL : Nat → ltT) (EE : Nat → evT) (LN : Nat → Nat) (lc ec : Nat) (hlc : lc ≤ 12) (hec : ec ≤ 24) (hLL : ∀ i, i < 12 → (LL i).2.2 ≤ 40) (hEE : ∀ q, q < ec → (EE q).1 = nI (LN q) ∧ LN q < lc ∧ (EE q).2.2.1 ≤ 40 ∧ (EE q).2.2.2.1 ≤ 8) (k : Nat) (hk : k < lc) (he1 : ec < 24) (hn1 : (LL k).2.2 = 0) : xM g l yX2_seal wsX2_seal { frames := 7, cells := 1, slots := 6, locals := 103 } [.ref (AD 0), .int (nI k)] (fun H => va_P (gD g) vwCl (wsD g AD LL EE lc ec) H) "java/lang/IllegalStateException" := by
  refine xr_of (cc := cX2_seal) (maxL := 3) (ret := (some .int)) (by decide) rfl (Nat.le_of_ble_eq_true rfl) ?_
  intro p e s m args below meth c ls hx hb hml hts hown hK hP hZ hlocks ht hl
  have hl : lv_has ls 3 [(0, .ref (AD 0)), (1, .int (nI k))] := hl
  have S : CallFix p m c cX2_seal 3 s args wsX2_seal RX2 := ⟨hx, hb, hml, hown, hts⟩
  have iX2 : ∀ w ∈ u_ws RX2 TX2 4, w ∈ wsX2_seal := by decide +kernel
  have f84 := hts (.fieldLink RX2 84 "LetterSeals" "envelopeCount" "I") (by decide +kernel)
  refine lv_aload_n hx hb dX2_seal_0 rfl (lv_at hl 0 rfl) ?_
  refine lv_iload_n hx hb dX2_seal_1 rfl (lv_at hl 1 rfl) ?_
  refine p_V (As := [.int (nI k)]) (rest := []) S (c_X2_requireLetter l g AD LL EE LN lc ec hlc hec hLL hEE k hk) (cwV 1 hts gX2_seal_X2_requireLetter rfl rfl rfl (by decide +kernel) ⟨Nat.le_of_ble_eq_true rfl, Nat.le_of_ble_eq_true rfl⟩) hK (va_recv hK.1 hP (ci := 2) (q0 := 0) rfl dk_me) (hP) rfl hl.1 rfl (Nat.le_of_ble_eq_true rfl) dX2_seal_2 ⟨Nat.le_of_ble_eq_true rfl, Nat.le_of_ble_eq_true rfl⟩ ?_
  refine lv_astore_n (lv' := [(2, .ref (AD (3 + 3 * k))), (0, .ref (AD 0)), (1, .int (nI k))]) hx hb dX2_seal_5 rfl hl (by decide) rfl (fun ls hl => ?_)
  refine lv_aload_n hx hb dX2_seal_6 rfl (lv_at hl 1 rfl) ?_
  refine va_get (D := gD g) (ci := 2) (v := .int (nI (ec))) (C := RX2) (T := TX2) (N := 4) hx hb hts iX2 hown hK.1 hP 0 dk_me rfl 3 (by decide) f84 (fun _ h9 => h9) rfl dX2_seal_7 ?_
  refine lv_bipush (v := nI (24)) hx hb dX2_seal_10 (by decide +kernel) ?_
  refine br_lt (a := ec) (b := 24) (tgt := 25) hx hb (by omega) (by omega) dX2_seal_12 (by decide) (fun c12 => ?_) (fun c12 => ?_)
  · refine lv_aload_n hx hb dX2_seal_25 rfl (lv_at hl 0 rfl) ?_
    have hL1 := dk_letter hP (i := k) (by omega)
    exact x_S (As := [.ref (AD (3 + 3 * k))]) (rest := []) S (c_X2_requireSigns_x l hlt g (AD (3 + 3 * k)) (AD (4 + 3 * k)) (AD (5 + 3 * k)) ((LL k).1) ((LL k).2.1) ((LL k).2.2) (hLL _ (by omega)) hn1) (va_cwS 1 hts gX2_seal_X2_requireSigns rfl rfl rfl (by decide +kernel) ⟨Nat.le_of_ble_eq_true rfl, Nat.le_of_ble_eq_true rfl⟩) hK hZ  (hL1) rfl hl.1 rfl (Nat.le_of_ble_eq_true rfl) dX2_seal_26 ⟨Nat.le_of_ble_eq_true rfl, Nat.le_of_ble_eq_true rfl⟩ ht hlocks
  · omega

set_option maxHeartbeats 4000000 in
set_option maxRecDepth 100000 in
/-- meanSigns -/
theorem c_X2_meanSigns (l : Launch) (g : gT) (AD : Nat → Nat) (LL : Nat → ltT) (EE : Nat → evT) (LN : Nat → Nat) (lc ec : Nat) (hlc : lc ≤ 12) (hec : ec ≤ 24) (hLL : ∀ i, i < 12 → (LL i).2.2 ≤ 40) (hEE : ∀ q, q < ec → (EE q).1 = nI (LN q) ∧ LN q < lc ∧ (EE q).2.2.1 ≤ 40 ∧ (EE q).2.2.2.1 ≤ 8) : pM g l yX2_meanSigns wsX2_meanSigns { frames := 0, cells := 0, slots := 0, locals := 0 } [.ref (AD 0)] (fun H => va_P (gD g) vwCl (wsD g AD LL EE lc ec) H) (.double (mnD lc (sN (fun j => (LL j).2.2) lc))) := by
  refine pu_ofD (cc := cX2_meanSigns) (maxL := 3) (by decide) rfl (Nat.le_of_ble_eq_true rfl) ?_
  intro p e s m args below meth c H ls Q hx hb hml hts hown hK hP hl hret
  have hl : lv_has ls 3 [(0, .ref (AD 0))] := hl
  have S : CallFix p m c cX2_meanSigns 3 s args wsX2_meanSigns RX2 := ⟨hx, hb, hml, hown, hts⟩
  have hs : ∀ i, i ≤ lc → sN (fun j => (LL j).2.2) i ≤ i * 40 := fun i hi => sN_le fun j hj => hLL j (by omega)
  have hsl := hs lc (Nat.le_refl lc)
  have iX1 : ∀ w ∈ u_ws RX1 TX1 3, w ∈ wsX2_meanSigns := by decide +kernel
  have iX2 : ∀ w ∈ u_ws RX2 TX2 4, w ∈ wsX2_meanSigns := by decide +kernel
  have f11 := hts (.fieldLink RX2 11 "LetterSeals" "letterRow" "[LLetterSeals$Letter;") (by decide +kernel)
  have f26 := hts (.fieldLink RX2 26 "LetterSeals" "letterCount" "I") (by decide +kernel)
  have n42 : (Cond.fieldLinkNest RX2 42 "LetterSeals$Letter" "count" "I" "LetterSeals").before args s = true := va_Nw.use rfl (hK.2.1 ("LetterSeals", 42, "LetterSeals$Letter", "count", "I") (List.mem_of_getElem? (i := 3) rfl))
  refine lv_aload_n hx hb dX2_meanSigns_0 rfl (lv_at hl 0 rfl) ?_
  refine va_get (D := gD g) (ci := 2) (v := .int (nI (lc))) (C := RX2) (T := TX2) (N := 4) hx hb hts iX2 hown hK.1 hP 0 dk_me rfl 2 (by decide) f26 (fun _ h9 => h9) rfl dX2_meanSigns_1 ?_
  refine br_ne0 (a := lc) (tgt := 9) hx hb (by omega) dX2_meanSigns_4 (by decide) (fun c4 => ?_) (fun c4 => ?_)
  · refine lv_iconst (v := nI (0)) hx hb dX2_meanSigns_9 (by decide +kernel) ?_
    refine lv_istore_n (lv' := [(1, .int (nI (0))), (0, .ref (AD 0))]) hx hb dX2_meanSigns_10 rfl hl (by decide) rfl (fun ls hl => ?_)
    refine lv_iconst (v := nI (0)) hx hb dX2_meanSigns_11 (by decide +kernel) ?_
    refine lv_istore_n (lv' := [(2, .int (nI (0))), (1, .int (nI (0))), (0, .ref (AD 0))]) hx hb dX2_meanSigns_12 rfl hl (by decide) rfl (fun ls hl => ?_)
    have L13 : ∀ (k1 i : Nat) (ls : Array Slot), lc - i < k1 → i ≤ lc → lv_has ls 3 [(2, .int (nI i)), (1, .int (nI (sN (fun j => (LL j).2.2) i))), (0, .ref (AD 0))] → W p l e { frames := 0, cells := 0, slots := 0, locals := 0 } s m args below meth c H [] 0 0 Q (F0 m 13 ls []) := by
      intro k1
      induction k1 with
      | zero => intro i ls hFu; exact absurd hFu (Nat.not_lt_zero _)
      | succ k1 ih1 =>
        intro i ls hFu hLe hl
        refine lv_iload_n hx hb dX2_meanSigns_13 rfl (lv_at hl 0 rfl) ?_
        refine lv_aload_n hx hb dX2_meanSigns_14 rfl (lv_at hl 2 rfl) ?_
        refine va_get (D := gD g) (ci := 2) (v := .int (nI (lc))) (C := RX2) (T := TX2) (N := 4) hx hb hts iX2 hown hK.1 hP 0 dk_me rfl 2 (by decide) f26 (fun _ h9 => h9) rfl dX2_meanSigns_15 ?_
        refine br_ge (a := i) (b := lc) (tgt := 39) hx hb (by omega) (by omega) dX2_meanSigns_18 (by decide) (fun c18 => ?_) (fun c18 => ?_)
        · have e_i : i = lc := by omega
          rw [e_i] at hl
          refine lv_iload_n hx hb dX2_meanSigns_39 rfl (lv_at hl 1 rfl) ?_
          refine lv_i2d hx hb dX2_meanSigns_40 ?_
          refine lv_aload_n hx hb dX2_meanSigns_41 rfl (lv_at hl 2 rfl) ?_
          refine va_get (D := gD g) (ci := 2) (v := .int (nI (lc))) (C := RX2) (T := TX2) (N := 4) hx hb hts iX2 hown hK.1 hP 0 dk_me rfl 2 (by decide) f26 (fun _ h9 => h9) rfl dX2_meanSigns_42 ?_
          refine lv_i2d hx hb dX2_meanSigns_45 ?_
          refine lv_ddiv hx hb dX2_meanSigns_46 (mean_ok (by omega) (by omega) c4) ?_
          refine lv_toD (z := mnD lc (sN (fun j => (LL j).2.2) lc)) (if_neg c4).symm ?_
          exact hret _ _ dX2_meanSigns_47
        · refine lv_iload_n hx hb dX2_meanSigns_21 rfl (lv_at hl 1 rfl) ?_
          refine lv_aload_n hx hb dX2_meanSigns_22 rfl (lv_at hl 2 rfl) ?_
          refine va_get (D := gD g) (ci := 2) (v := .ref (AD 1)) (C := RX2) (T := TX2) (N := 4) hx hb hts iX2 hown hK.1 hP 0 dk_me rfl 0 (by decide) f11 (fun _ h9 => h9) rfl dX2_meanSigns_23 ?_
          refine lv_iload_n hx hb dX2_meanSigns_26 rfl (lv_at hl 0 rfl) ?_
          refine ld_Q (C := "LetterSeals$Letter") (k := i) (n := 12) (f := fun i => some (AD (3 + 3 * i))) (r := AD (3 + 3 * i)) hx hb hK.1 hP 1 1 dk_lr rfl (by omega) (by decide) rfl dX2_meanSigns_27 ?_
          have hL2 := dk_letter hP (i := i) (by omega)
          refine va_getN (D := gD g) (ci := 1) (v := .int (nI ((LL i).2.2))) (C := RX1) (T := TX1) (N := 3) hx hb hts iX1 hown hK.1 hL2 0 rfl rfl 2 (by decide) n42 (fun _ h9 => h9) rfl dX2_meanSigns_28 ?_
          refine lv_iadd hx hb dX2_meanSigns_31 ?_
          refine lv_toI (z := nI (sN (fun j => (LL j).2.2) i + (LL i).2.2)) (nI_add _ _) ?_
          refine lv_toI (z := nI (sN (fun j => (LL j).2.2) (i + 1))) (rfl) ?_
          refine lv_istore_n (lv' := [(1, .int (nI (sN (fun j => (LL j).2.2) (i + 1)))), (2, .int (nI i)), (0, .ref (AD 0))]) hx hb dX2_meanSigns_32 rfl hl (by decide) rfl (fun ls hl => ?_)
          refine lv_iinc (v := nI (i + 1)) (lv' := [(2, .int (nI (i + 1))), (1, .int (nI (sN (fun j => (LL j).2.2) (i + 1)))), (0, .ref (AD 0))]) hx hb dX2_meanSigns_33 hl (k := 1) rfl (nI_1 _) (by decide) rfl (fun ls hl => ?_)
          refine lv_goto (tgt := 13) hx hb dX2_meanSigns_36 (by decide) ?_
          exact ih1 (i + 1) _ (by omega) (by omega) (lv_sub hl [0, 1, 2] rfl)
    exact L13 (lc + 1) (0) _ (by omega) (by omega) (lv_sub hl [0, 1, 2] rfl)
  · refine lv_dconst0 hx hb dX2_meanSigns_7 ?_
    refine lv_toD (z := mnD lc (sN (fun j => (LL j).2.2) lc)) (if_pos c4).symm ?_
    exact hret _ _ dX2_meanSigns_8
