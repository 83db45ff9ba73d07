set_option maxHeartbeats 4000000 in
set_option maxRecDepth 100000 in
/-- requireLetter -/
theorem c_X2_requireLetter (l : Launch) (g : gT) (AD : Nat → Nat) (LL : Nat → ltT) (EE : Nat → evT) (LN : Nat → Nat) (lc ec : Nat) (hlc : lc ≤ 12) (hec : ec ≤ 24) (hLL : ∀ i, i < 12 → (LL i).2.2 ≤ 40) (hEE : ∀ q, q < ec → (EE q).1 = nI (LN q) ∧ LN q < lc ∧ (EE q).2.2.1 ≤ 40 ∧ (EE q).2.2.2.1 ≤ 8) (k : Nat) (hk : k < lc) : pM g l yX2_requireLetter wsX2_requireLetter { frames := 0, cells := 0, slots := 0, locals := 0 } [.ref (AD 0), .int (nI k)] (fun H => va_P (gD g) vwCl (wsD g AD LL EE lc ec) H) (.ref (AD (3 + 3 * k))) := by
  refine pu_ofA (cc := cX2_requireLetter) (maxL := 2) (by decide) rfl (Nat.le_of_ble_eq_true rfl) ?_
  intro p e s m args below meth c H ls Q hx hb hml hts hown hK hP hl hret
  have hl : lv_has ls 2 [(0, .ref (AD 0)), (1, .int (nI k))] := hl
  have S : CallFix p m c cX2_requireLetter 2 s args wsX2_requireLetter RX2 := ⟨hx, hb, hml, hown, hts⟩
  have iX2 : ∀ w ∈ u_ws RX2 TX2 4, w ∈ wsX2_requireLetter := by decide +kernel
  have f11 := hts (.fieldLink RX2 11 "LetterSeals" "letterRow" "[LLetterSeals$Letter;") (by decide +kernel)
  have f26 := hts (.fieldLink RX2 26 "LetterSeals" "letterCount" "I") (by decide +kernel)
  refine lv_iload_n hx hb dX2_requireLetter_0 rfl (lv_at hl 1 rfl) ?_
  refine br_lt0 (a := k) (tgt := 12) hx hb (by omega) dX2_requireLetter_1 (by decide) (fun c1 => ?_) (fun c1 => ?_)
  · exact c1.elim
  · refine lv_iload_n hx hb dX2_requireLetter_4 rfl (lv_at hl 1 rfl) ?_
    refine lv_aload_n hx hb dX2_requireLetter_5 rfl (lv_at hl 0 rfl) ?_
    refine va_get (D := gD g) (ci := 2) (v := .int (nI (lc))) (C := RX2) (T := TX2) (N := 4) hx hb hts iX2 hown hK.1 hP 0 dk_me rfl 2 (by decide) f26 (fun _ h9 => h9) rfl dX2_requireLetter_6 ?_
    refine br_lt (a := k) (b := lc) (tgt := 22) hx hb (by omega) (by omega) dX2_requireLetter_9 (by decide) (fun c9 => ?_) (fun c9 => ?_)
    · refine lv_aload_n hx hb dX2_requireLetter_22 rfl (lv_at hl 0 rfl) ?_
      refine va_get (D := gD g) (ci := 2) (v := .ref (AD 1)) (C := RX2) (T := TX2) (N := 4) hx hb hts iX2 hown hK.1 hP 0 dk_me rfl 0 (by decide) f11 (fun _ h9 => h9) rfl dX2_requireLetter_23 ?_
      refine lv_iload_n hx hb dX2_requireLetter_26 rfl (lv_at hl 1 rfl) ?_
      refine ld_Q (C := "LetterSeals$Letter") (k := k) (n := 12) (f := fun i => some (AD (3 + 3 * i))) (r := AD (3 + 3 * k)) hx hb hK.1 hP 1 1 dk_lr rfl (by omega) (by decide) rfl dX2_requireLetter_27 ?_
      exact hret _ _ dX2_requireLetter_28
    · omega

set_option maxHeartbeats 4000000 in
set_option maxRecDepth 100000 in
/-- requireLetter_x -/
theorem c_X2_requireLetter_x (l : Launch) (hlt : l.stackTraces = false) (g : gT) (AD : Nat → Nat) (LL : Nat → ltT) (EE : Nat → evT) (LN : Nat → Nat) (lc ec : Nat) (hlc : lc ≤ 12) (hec : ec ≤ 24) (hLL : ∀ i, i < 12 → (LL i).2.2 ≤ 40) (hEE : ∀ q, q < ec → (EE q).1 = nI (LN q) ∧ LN q < lc ∧ (EE q).2.2.1 ≤ 40 ∧ (EE q).2.2.2.1 ≤ 8) (x : Int32) (hxb : inB x lc = false) : xM g l yX2_requireLetter wsX2_requireLetter { frames := 6, cells := 1, slots := 6, locals := 82 } [.ref (AD 0), .int (x)] (fun H => va_P (gD g) vwCl (wsD g AD LL EE lc ec) H) "java/lang/IndexOutOfBoundsException" := by
  refine xr_of (cc := cX2_requireLetter) (maxL := 2) (ret := (some (.object "LetterSeals$Letter"))) (by decide) rfl (Nat.le_of_ble_eq_true rfl) ?_
  intro p e s m args below meth c ls hx hb hml hts hown hK hP hZ hlocks ht hl
  have hl : lv_has ls 2 [(0, .ref (AD 0)), (1, .int (x))] := hl
  have S : CallFix p m c cX2_requireLetter 2 s args wsX2_requireLetter RX2 := ⟨hx, hb, hml, hown, hts⟩
  have iX2 : ∀ w ∈ u_ws RX2 TX2 4, w ∈ wsX2_requireLetter := by decide +kernel
  have f26 := hts (.fieldLink RX2 26 "LetterSeals" "letterCount" "I") (by decide +kernel)
  refine lv_iload_n hx hb dX2_requireLetter_0 rfl (lv_at hl 1 rfl) ?_
  refine lv_if_lt (tgt := 12) hx hb dX2_requireLetter_1 (by decide) (fun c1 => ?_) (fun c1 => ?_)
  · exact x_throw (E := "java/lang/IndexOutOfBoundsException") (text := "there is no such letter") (ik := 184) (is := 186) (ic := 188) hx hb hlt hown hts (by decide +kernel) (by decide +kernel) (by decide +kernel) (by decide +kernel) (by decide +kernel) (by decide +kernel) hK (List.mem_of_getElem? (i := 0) rfl) (List.mem_of_getElem? (i := 1) rfl) hZ (hl.1.trans hml.symm) dX2_requireLetter_12 dX2_requireLetter_15 dX2_requireLetter_16 dX2_requireLetter_18 dX2_requireLetter_21 ht (Nat.le_of_ble_eq_true rfl) (Nat.le_of_ble_eq_true rfl) (Nat.le_of_ble_eq_true rfl) (Nat.le_of_ble_eq_true rfl) hlocks
  · refine lv_iload_n hx hb dX2_requireLetter_4 rfl (lv_at hl 1 rfl) ?_
    refine lv_aload_n hx hb dX2_requireLetter_5 rfl (lv_at hl 0 rfl) ?_
    refine va_get (D := gD g) (ci := 2) (v := .int (nI (lc))) (C := RX2) (T := TX2) (N := 4) hx hb hts iX2 hown hK.1 hP 0 dk_me rfl 2 (by decide) f26 (fun _ h9 => h9) rfl dX2_requireLetter_6 ?_
    refine lv_icmp_lt (tgt := 22) hx hb dX2_requireLetter_9 (by decide) (fun c9 => ?_) (fun c9 => ?_)
    · exact absurd hxb (by rw [inB_yes c1 c9]; decide)
    · exact x_throw (E := "java/lang/IndexOutOfBoundsException") (text := "there is no such letter") (ik := 184) (is := 186) (ic := 188) hx hb hlt hown hts (by decide +kernel) (by decide +kernel) (by decide +kernel) (by decide +kernel) (by decide +kernel) (by decide +kernel) hK (List.mem_of_getElem? (i := 0) rfl) (List.mem_of_getElem? (i := 1) rfl) hZ (hl.1.trans hml.symm) dX2_requireLetter_12 dX2_requireLetter_15 dX2_requireLetter_16 dX2_requireLetter_18 dX2_requireLetter_21 ht (Nat.le_of_ble_eq_true rfl) (Nat.le_of_ble_eq_true rfl) (Nat.le_of_ble_eq_true rfl) (Nat.le_of_ble_eq_true rfl) hlocks

set_option maxHeartbeats 4000000 in
set_option maxRecDepth 100000 in
/-- requireEnvelope -/
theorem c_X2_requireEnvelope (l : Launch) (g : gT) (AD : Nat → Nat) (LL : Nat → ltT) (EE : Nat → evT) (LN : Nat → Nat) (lc ec : Nat) (hlc : lc ≤ 12) (hec : ec ≤ 24) (hLL : ∀ i, i < 12 → (LL i).2.2 ≤ 40) (hEE : ∀ q, q < ec → (EE q).1 = nI (LN q) ∧ LN q < lc ∧ (EE q).2.2.1 ≤ 40 ∧ (EE q).2.2.2.1 ≤ 8) (q : Nat) (hq : q < ec) : pM g l yX2_requireEnvelope wsX2_requireEnvelope { frames := 0, cells := 0, slots := 0, locals := 0 } [.ref (AD 0), .int (nI q)] (fun H => va_P (gD g) vwCl (wsD g AD LL EE lc ec) H) (.ref (AD (39 + 2 * q))) := by
  refine pu_ofA (cc := cX2_requireEnvelope) (maxL := 2) (by decide) rfl (Nat.le_of_ble_eq_true rfl) ?_
  intro p e s m args below meth c H ls Q hx hb hml hts hown hK hP hl hret
  have hl : lv_has ls 2 [(0, .ref (AD 0)), (1, .int (nI q))] := hl
  have S : CallFix p m c cX2_requireEnvelope 2 s args wsX2_requireEnvelope RX2 := ⟨hx, hb, hml, hown, hts⟩
  have iX2 : ∀ w ∈ u_ws RX2 TX2 4, w ∈ wsX2_requireEnvelope := by decide +kernel
  have f17 := hts (.fieldLink RX2 17 "LetterSeals" "envelopeRow" "[LLetterSeals$Envelope;") (by decide +kernel)
  have f84 := hts (.fieldLink RX2 84 "LetterSeals" "envelopeCount" "I") (by decide +kernel)
  refine lv_iload_n hx hb dX2_requireEnvelope_0 rfl (lv_at hl 1 rfl) ?_
  refine br_lt0 (a := q) (tgt := 12) hx hb (by omega) dX2_requireEnvelope_1 (by decide) (fun c1 => ?_) (fun c1 => ?_)
  · exact c1.elim
  · refine lv_iload_n hx hb dX2_requireEnvelope_4 rfl (lv_at hl 1 rfl) ?_
    refine lv_aload_n hx hb dX2_requireEnvelope_5 rfl (lv_at hl 0 rfl) ?_
    refine va_get (D := gD g) (ci := 2) (v := .int (nI (ec))) (C := RX2) (T := TX2) (N := 4) hx hb hts iX2 hown hK.1 hP 0 dk_me rfl 3 (by decide) f84 (fun _ h9 => h9) rfl dX2_requireEnvelope_6 ?_
    refine br_lt (a := q) (b := ec) (tgt := 22) hx hb (by omega) (by omega) dX2_requireEnvelope_9 (by decide) (fun c9 => ?_) (fun c9 => ?_)
    · refine lv_aload_n hx hb dX2_requireEnvelope_22 rfl (lv_at hl 0 rfl) ?_
      refine va_get (D := gD g) (ci := 2) (v := .ref (AD 2)) (C := RX2) (T := TX2) (N := 4) hx hb hts iX2 hown hK.1 hP 0 dk_me rfl 1 (by decide) f17 (fun _ h9 => h9) rfl dX2_requireEnvelope_23 ?_
      refine lv_iload_n hx hb dX2_requireEnvelope_26 rfl (lv_at hl 1 rfl) ?_
      refine ld_Q (C := "LetterSeals$Envelope") (k := q) (n := 24) (f := fun q => some (AD (39 + 2 * q))) (r := AD (39 + 2 * q)) hx hb hK.1 hP 2 2 dk_er rfl (by omega) (by decide) rfl dX2_requireEnvelope_27 ?_
      exact hret _ _ dX2_requireEnvelope_28
    · omega

set_option maxHeartbeats 4000000 in
set_option maxRecDepth 100000 in
/-- requireEnvelope_x -/
theorem c_X2_requireEnvelope_x (l : Launch) (hlt : l.stackTraces = false) (g : gT) (AD : Nat → Nat) (LL : Nat → ltT) (EE : Nat → evT) (LN : Nat → Nat) (lc ec : Nat) (hlc : lc ≤ 12) (hec : ec ≤ 24) (hLL : ∀ i, i < 12 → (LL i).2.2 ≤ 40) (hEE : ∀ q, q < ec → (EE q).1 = nI (LN q) ∧ LN q < lc ∧ (EE q).2.2.1 ≤ 40 ∧ (EE q).2.2.2.1 ≤ 8) (x : Int32) (hxb : inB x ec = false) : xM g l yX2_requireEnvelope wsX2_requireEnvelope { frames := 6, cells := 1, slots := 6, locals := 82 } [.ref (AD 0), .int (x)] (fun H => va_P (gD g) vwCl (wsD g AD LL EE lc ec) H) "java/lang/IndexOutOfBoundsException" := by
  refine xr_of (cc := cX2_requireEnvelope) (maxL := 2) (ret := (some (.object "LetterSeals$Envelope"))) (by decide) rfl (Nat.le_of_ble_eq_true rfl) ?_
  intro p e s m args below meth c ls hx hb hml hts hown hK hP hZ hlocks ht hl
  have hl : lv_has ls 2 [(0, .ref (AD 0)), (1, .int (x))] := hl
  have S : CallFix p m c cX2_requireEnvelope 2 s args wsX2_requireEnvelope RX2 := ⟨hx, hb, hml, hown, hts⟩
  have iX2 : ∀ w ∈ u_ws RX2 TX2 4, w ∈ wsX2_requireEnvelope := by decide +kernel
  have f84 := hts (.fieldLink RX2 84 "LetterSeals" "envelopeCount" "I") (by decide +kernel)
  refine lv_iload_n hx hb dX2_requireEnvelope_0 rfl (lv_at hl 1 rfl) ?_
  refine lv_if_lt (tgt := 12) hx hb dX2_requireEnvelope_1 (by decide) (fun c1 => ?_) (fun c1 => ?_)
  · exact x_throw (E := "java/lang/IndexOutOfBoundsException") (text := "there is no such envelope") (ik := 184) (is := 191) (ic := 188) hx hb hlt hown hts (by decide +kernel) (by decide +kernel) (by decide +kernel) (by decide +kernel) (by decide +kernel) (by decide +kernel) hK (List.mem_of_getElem? (i := 0) rfl) (List.mem_of_getElem? (i := 13) rfl) hZ (hl.1.trans hml.symm) dX2_requireEnvelope_12 dX2_requireEnvelope_15 dX2_requireEnvelope_16 dX2_requireEnvelope_18 dX2_requireEnvelope_21 ht (Nat.le_of_ble_eq_true rfl) (Nat.le_of_ble_eq_true rfl) (Nat.le_of_ble_eq_true rfl) (Nat.le_of_ble_eq_true rfl) hlocks
  · refine lv_iload_n hx hb dX2_requireEnvelope_4 rfl (lv_at hl 1 rfl) ?_
    refine lv_aload_n hx hb dX2_requireEnvelope_5 rfl (lv_at hl 0 rfl) ?_
    refine va_get (D := gD g) (ci := 2) (v := .int (nI (ec))) (C := RX2) (T := TX2) (N := 4) hx hb hts iX2 hown hK.1 hP 0 dk_me rfl 3 (by decide) f84 (fun _ h9 => h9) rfl dX2_requireEnvelope_6 ?_
    refine lv_icmp_lt (tgt := 22) hx hb dX2_requireEnvelope_9 (by decide) (fun c9 => ?_) (fun c9 => ?_)
    · exact absurd hxb (by rw [inB_yes c1 c9]; decide)
    · exact x_throw (E := "java/lang/IndexOutOfBoundsException") (text := "there is no such envelope") (ik := 184) (is := 191) (ic := 188) hx hb hlt hown hts (by decide +kernel) (by decide +kernel) (by decide +kernel) (by decide +kernel) (by decide +kernel) (by decide +kernel) hK (List.mem_of_getElem? (i := 0) rfl) (List.mem_of_getElem? (i := 13) rfl) hZ (hl.1.trans hml.symm) dX2_requireEnvelope_12 dX2_requireEnvelope_15 dX2_requireEnvelope_16 dX2_requireEnvelope_18 dX2_requireEnvelope_21 ht (Nat.le_of_ble_eq_true rfl) (Nat.le_of_ble_eq_true rfl) (Nat.le_of_ble_eq_true rfl) (Nat.le_of_ble_eq_true rfl) hlocks

set_option maxHeartbeats 4000000 in
set_option maxRecDepth 100000 in
/-- requireLetterWithPlace -/
theorem c_X2_requireLetterWithPlace (l : Launch) (g : gT) (AD : Nat → Nat) (LL : Nat → ltT) (EE : Nat → evT) (LN : Nat → Nat) (lc ec : Nat) (hlc : lc ≤ 12) (hec : ec ≤ 24) (hLL : ∀ i, i < 12 → (LL i).2.2 ≤ 40) (hEE : ∀ q, q < ec → (EE q).1 = nI (LN q) ∧ LN q < lc ∧ (EE q).2.2.1 ≤ 40 ∧ (EE q).2.2.2.1 ≤ 8) (k : Nat) (hk : k < lc) (j : Nat) (hj : j < (LL k).2.2) : pM g l yX2_requireLetterWithPlace wsX2_requireLetterWithPlace { frames := 7, cells := 0, slots := 0, locals := 103 } [.ref (AD 0), .int (nI k), .int (nI j)] (fun H => va_P (gD g) vwCl (wsD g AD LL EE lc ec) H) (.ref (AD (3 + 3 * k))) := by
  refine pu_ofA (cc := cX2_requireLetterWithPlace) (maxL := 4) (by decide) rfl (Nat.le_of_ble_eq_true rfl) ?_
  intro p e s m args below meth c H ls Q hx hb hml hts hown hK hP hl hret
  have hl : lv_has ls 4 [(0, .ref (AD 0)), (1, .int (nI k)), (2, .int (nI j))] := hl
  have S : CallFix p m c cX2_requireLetterWithPlace 4 s args wsX2_requireLetterWithPlace RX2 := ⟨hx, hb, hml, hown, hts⟩
  have hk40 := hLL k (by omega)
  have iX1 : ∀ w ∈ u_ws RX1 TX1 3, w ∈ wsX2_requireLetterWithPlace := by decide +kernel
  have n42 : (Cond.fieldLinkNest RX2 42 "LetterSeals$Letter" "count" "I" "LetterSeals").before args s = true := va_Nw.use rfl (hK.2.1 ("LetterSeals", 42, "LetterSeals$Letter", "count", "I") (List.mem_of_getElem? (i := 3) rfl))
  refine lv_aload_n hx hb dX2_requireLetterWithPlace_0 rfl (lv_at hl 0 rfl) ?_
  refine lv_iload_n hx hb dX2_requireLetterWithPlace_1 rfl (lv_at hl 1 rfl) ?_
  refine p_V (As := [.int (nI k)]) (rest := []) S (c_X2_requireLetter l g AD LL EE LN lc ec hlc hec hLL hEE k hk) (cwV 1 hts gX2_requireLetterWithPlace_X2_requireLetter rfl rfl rfl (by decide +kernel) ⟨Nat.le_of_ble_eq_true rfl, Nat.le_of_ble_eq_true rfl⟩) hK (va_recv hK.1 hP (ci := 2) (q0 := 0) rfl dk_me) (hP) rfl hl.1 rfl (Nat.le_of_ble_eq_true rfl) dX2_requireLetterWithPlace_2 ⟨Nat.le_of_ble_eq_true rfl, Nat.le_of_ble_eq_true rfl⟩ ?_
  refine lv_astore_n (lv' := [(3, .ref (AD (3 + 3 * k))), (0, .ref (AD 0)), (1, .int (nI k)), (2, .int (nI j))]) hx hb dX2_requireLetterWithPlace_5 rfl hl (by decide) rfl (fun ls hl => ?_)
  refine lv_iload_n hx hb dX2_requireLetterWithPlace_6 rfl (lv_at hl 3 rfl) ?_
  refine br_lt0 (a := j) (tgt := 18) hx hb (by omega) dX2_requireLetterWithPlace_7 (by decide) (fun c7 => ?_) (fun c7 => ?_)
  · exact c7.elim
  · refine lv_iload_n hx hb dX2_requireLetterWithPlace_10 rfl (lv_at hl 3 rfl) ?_
    refine lv_aload_n hx hb dX2_requireLetterWithPlace_11 rfl (lv_at hl 0 rfl) ?_
    have hL1 := dk_letter hP (i := k) (by omega)
    refine va_getN (D := gD g) (ci := 1) (v := .int (nI ((LL k).2.2))) (C := RX1) (T := TX1) (N := 3) hx hb hts iX1 hown hK.1 hL1 0 rfl rfl 2 (by decide) n42 (fun _ h9 => h9) rfl dX2_requireLetterWithPlace_12 ?_
    refine br_lt (a := j) (b := (LL k).2.2) (tgt := 28) hx hb (by omega) (by omega) dX2_requireLetterWithPlace_15 (by decide) (fun c15 => ?_) (fun c15 => ?_)
    · refine lv_aload_n hx hb dX2_requireLetterWithPlace_28 rfl (lv_at hl 0 rfl) ?_
      exact hret _ _ dX2_requireLetterWithPlace_29
    · omega

set_option maxHeartbeats 4000000 in
set_option maxRecDepth 100000 in
/-- requireLetterWithPlace_x -/
theorem c_X2_requireLetterWithPlace_x (l : Launch) (hlt : l.stackTraces = false) (g : gT) (AD : Nat → Nat) (LL : Nat → ltT) (EE : Nat → evT) (LN : Nat → Nat) (lc ec : Nat) (hlc : lc ≤ 12) (hec : ec ≤ 24) (hLL : ∀ i, i < 12 → (LL i).2.2 ≤ 40) (hEE : ∀ q, q < ec → (EE q).1 = nI (LN q) ∧ LN q < lc ∧ (EE q).2.2.1 ≤ 40 ∧ (EE q).2.2.2.1 ≤ 8) (x : Int32) (hxb : inB x lc = false) (y : Int32) : xM g l yX2_requireLetterWithPlace wsX2_requireLetterWithPlace { frames := 7, cells := 1, slots := 6, locals := 103 } [.ref (AD 0), .int (x), .int (y)] (fun H => va_P (gD g) vwCl (wsD g AD LL EE lc ec) H) "java/lang/IndexOutOfBoundsException" := by
  refine xr_of (cc := cX2_requireLetterWithPlace) (maxL := 4) (ret := (some (.object "LetterSeals$Letter"))) (by decide) rfl (Nat.le_of_ble_eq_true rfl) ?_
  intro p e s m args below meth c ls hx hb hml hts hown hK hP hZ hlocks ht hl
  have hl : lv_has ls 4 [(0, .ref (AD 0)), (1, .int (x)), (2, .int (y))] := hl
  have S : CallFix p m c cX2_requireLetterWithPlace 4 s args wsX2_requireLetterWithPlace RX2 := ⟨hx, hb, hml, hown, hts⟩
  refine lv_aload_n hx hb dX2_requireLetterWithPlace_0 rfl (lv_at hl 0 rfl) ?_
  refine lv_iload_n hx hb dX2_requireLetterWithPlace_1 rfl (lv_at hl 1 rfl) ?_
  exact x_V (As := [.int (x)]) (rest := []) S (c_X2_requireLetter_x l hlt g AD LL EE LN lc ec hlc hec hLL hEE x hxb) (cwV 1 hts gX2_requireLetterWithPlace_X2_requireLetter rfl rfl rfl (by decide +kernel) ⟨Nat.le_of_ble_eq_true rfl, Nat.le_of_ble_eq_true rfl⟩) hK hZ (va_recv hK.1 hP (ci := 2) (q0 := 0) rfl dk_me) (hP) rfl hl.1 rfl (Nat.le_of_ble_eq_true rfl) dX2_requireLetterWithPlace_2 ⟨Nat.le_of_ble_eq_true rfl, Nat.le_of_ble_eq_true rfl⟩ ht hlocks

set_option maxHeartbeats 4000000 in
set_option maxRecDepth 100000 in
/-- requireLetterWithPlace_y -/
theorem c_X2_requireLetterWithPlace_y (l : Launch) (hlt : l.stackTraces = false) (g : gT) (AD : Nat → Nat) (LL : Nat → ltT) (EE : Nat → evT) (LN : Nat → Nat) (lc ec : Nat) (hlc : lc ≤ 12) (hec : ec ≤ 24) (hLL : ∀ i, i < 12 → (LL i).2.2 ≤ 40) (hEE : ∀ q, q < ec → (EE q).1 = nI (LN q) ∧ LN q < lc ∧ (EE q).2.2.1 ≤ 40 ∧ (EE q).2.2.2.1 ≤ 8) (k : Nat) (hk : k < lc) (y : Int32) (hy : inB y (LL k).2.2 = false) : xM g l yX2_requireLetterWithPlace wsX2_requireLetterWithPlace { frames := 7, cells := 1, slots := 6, locals := 103 } [.ref (AD 0), .int (nI k), .int (y)] (fun H => va_P (gD g) vwCl (wsD g AD LL EE lc ec) H) "java/lang/IndexOutOfBoundsException" := by
  refine xr_of (cc := cX2_requireLetterWithPlace) (maxL := 4) (ret := (some (.object "LetterSeals$Letter"))) (by decide) rfl (Nat.le_of_ble_eq_true rfl) ?_
  intro p e s m args below meth c ls hx hb hml hts hown hK hP hZ hlocks ht hl
  have hl : lv_has ls 4 [(0, .ref (AD 0)), (1, .int (nI k)), (2, .int (y))] := hl
  have S : CallFix p m c cX2_requireLetterWithPlace 4 s args wsX2_requireLetterWithPlace RX2 := ⟨hx, hb, hml, hown, hts⟩
  have iX1 : ∀ w ∈ u_ws RX1 TX1 3, w ∈ wsX2_requireLetterWithPlace := by decide +kernel
  have n42 : (Cond.fieldLinkNest RX2 42 "LetterSeals$Letter" "count" "I" "LetterSeals").before args s = true := va_Nw.use rfl (hK.2.1 ("LetterSeals", 42, "LetterSeals$Letter", "count", "I") (List.mem_of_getElem? (i := 3) rfl))
  refine lv_aload_n hx hb dX2_requireLetterWithPlace_0 rfl (lv_at hl 0 rfl) ?_
  refine lv_iload_n hx hb dX2_requireLetterWithPlace_1 rfl (lv_at hl 1 rfl) ?_
  refine p_V (As := [.int (nI k)]) (rest := []) S (c_X2_requireLetter l g AD LL EE LN lc ec hlc hec hLL hEE k hk) (cwV 1 hts gX2_requireLetterWithPlace_X2_requireLetter rfl rfl rfl (by decide +kernel) ⟨Nat.le_of_ble_eq_true rfl, Nat.le_of_ble_eq_true rfl⟩) hK (va_recv hK.1 hP (ci := 2) (q0 := 0) rfl dk_me) (hP) rfl hl.1 rfl (Nat.le_of_ble_eq_true rfl) dX2_requireLetterWithPlace_2 ⟨Nat.le_of_ble_eq_true rfl, Nat.le_of_ble_eq_true rfl⟩ ?_
  refine lv_astore_n (lv' := [(3, .ref (AD (3 + 3 * k))), (0, .ref (AD 0)), (1, .int (nI k)), (2, .int (y))]) hx hb dX2_requireLetterWithPlace_5 rfl hl (by decide) rfl (fun ls hl => ?_)
  refine lv_iload_n hx hb dX2_requireLetterWithPlace_6 rfl (lv_at hl 3 rfl) ?_
  refine lv_if_lt (tgt := 18) hx hb dX2_requireLetterWithPlace_7 (by decide) (fun c7 => ?_) (fun c7 => ?_)
  · exact x_throw (E := "java/lang/IndexOutOfBoundsException") (text := "there is no sign at this place") (ik := 184) (is := 189) (ic := 188) hx hb hlt hown hts (by decide +kernel) (by decide +kernel) (by decide +kernel) (by decide +kernel) (by decide +kernel) (by decide +kernel) hK (List.mem_of_getElem? (i := 0) rfl) (List.mem_of_getElem? (i := 5) rfl) hZ (hl.1.trans hml.symm) dX2_requireLetterWithPlace_18 dX2_requireLetterWithPlace_21 dX2_requireLetterWithPlace_22 dX2_requireLetterWithPlace_24 dX2_requireLetterWithPlace_27 ht (Nat.le_of_ble_eq_true rfl) (Nat.le_of_ble_eq_true rfl) (Nat.le_of_ble_eq_true rfl) (Nat.le_of_ble_eq_true rfl) hlocks
  · refine lv_iload_n hx hb dX2_requireLetterWithPlace_10 rfl (lv_at hl 3 rfl) ?_
    refine lv_aload_n hx hb dX2_requireLetterWithPlace_11 rfl (lv_at hl 0 rfl) ?_
    have hL1 := dk_letter hP (i := k) (by omega)
    refine va_getN (D := gD g) (ci := 1) (v := .int (nI ((LL k).2.2))) (C := RX1) (T := TX1) (N := 3) hx hb hts iX1 hown hK.1 hL1 0 rfl rfl 2 (by decide) n42 (fun _ h9 => h9) rfl dX2_requireLetterWithPlace_12 ?_
    refine lv_icmp_lt (tgt := 28) hx hb dX2_requireLetterWithPlace_15 (by decide) (fun c15 => ?_) (fun c15 => ?_)
    · exact absurd hy (by rw [inB_yes c7 c15]; decide)
    · exact x_throw (E := "java/lang/IndexOutOfBoundsException") (text := "there is no sign at this place") (ik := 184) (is := 189) (ic := 188) hx hb hlt hown hts (by decide +kernel) (by decide +kernel) (by decide +kernel) (by decide +kernel) (by decide +kernel) (by decide +kernel) hK (List.mem_of_getElem? (i := 0) rfl) (List.mem_of_getElem? (i := 5) rfl) hZ (hl.1.trans hml.symm) dX2_requireLetterWithPlace_18 dX2_requireLetterWithPlace_21 dX2_requireLetterWithPlace_22 dX2_requireLetterWithPlace_24 dX2_requireLetterWithPlace_27 ht (Nat.le_of_ble_eq_true rfl) (Nat.le_of_ble_eq_true rfl) (Nat.le_of_ble_eq_true rfl) (Nat.le_of_ble_eq_true rfl) hlocks

set_option maxHeartbeats 4000000 in
set_option maxRecDepth 100000 in
/-- requireRoomForLetter -/
theorem c_X2_requireRoomForLetter (l : Launch) (g : gT) (AD : Nat → Nat) (LL : Nat → ltT) (EE : Nat → evT) (LN : Nat → Nat) (lc ec : Nat) (hlc : lc ≤ 12) (hec : ec ≤ 24) (hLL : ∀ i, i < 12 → (LL i).2.2 ≤ 40) (hEE : ∀ q, q < ec → (EE q).1 = nI (LN q) ∧ LN q < lc ∧ (EE q).2.2.1 ≤ 40 ∧ (EE q).2.2.2.1 ≤ 8) (hl1 : lc < 12) : pMv g l yX2_requireRoomForLetter wsX2_requireRoomForLetter { frames := 0, cells := 0, slots := 0, locals := 0 } [.ref (AD 0)] (fun H => va_P (gD g) vwCl (wsD g AD LL EE lc ec) H) := by
  refine pu_ofV (cc := cX2_requireRoomForLetter) (maxL := 1) (by decide) rfl (Nat.le_of_ble_eq_true rfl) ?_
  intro p e s m args below meth c H ls Q hx hb hml hts hown hK hP hl hret
  have hl : lv_has ls 1 [(0, .ref (AD 0))] := hl
  have S : CallFix p m c cX2_requireRoomForLetter 1 s args wsX2_requireRoomForLetter RX2 := ⟨hx, hb, hml, hown, hts⟩
  have iX2 : ∀ w ∈ u_ws RX2 TX2 4, w ∈ wsX2_requireRoomForLetter := by decide +kernel
  have f26 := hts (.fieldLink RX2 26 "LetterSeals" "letterCount" "I") (by decide +kernel)
  refine lv_aload_n hx hb dX2_requireRoomForLetter_0 rfl (lv_at hl 0 rfl) ?_
  refine va_get (D := gD g) (ci := 2) (v := .int (nI (lc))) (C := RX2) (T := TX2) (N := 4) hx hb hts iX2 hown hK.1 hP 0 dk_me rfl 2 (by decide) f26 (fun _ h9 => h9) rfl dX2_requireRoomForLetter_1 ?_
  refine lv_bipush (v := nI (12)) hx hb dX2_requireRoomForLetter_4 (by decide +kernel) ?_
  refine br_lt (a := lc) (b := 12) (tgt := 19) hx hb (by omega) (by omega) dX2_requireRoomForLetter_6 (by decide) (fun c6 => ?_) (fun c6 => ?_)
  · exact hret _ _ dX2_requireRoomForLetter_19
  · omega

set_option maxHeartbeats 4000000 in
set_option maxRecDepth 100000 in
/-- requireRoomForLetter_x -/
theorem c_X2_requireRoomForLetter_x (l : Launch) (hlt : l.stackTraces = false) (g : gT) (AD : Nat → Nat) (LL : Nat → ltT) (EE : Nat → evT) (LN : Nat → Nat) (lc ec : Nat) (hlc : lc ≤ 12) (hec : ec ≤ 24) (hLL : ∀ i, i < 12 → (LL i).2.2 ≤ 40) (hEE : ∀ q, q < ec → (EE q).1 = nI (LN q) ∧ LN q < lc ∧ (EE q).2.2.1 ≤ 40 ∧ (EE q).2.2.2.1 ≤ 8) (hl1 : lc = 12) : xM g l yX2_requireRoomForLetter wsX2_requireRoomForLetter { frames := 6, cells := 1, slots := 6, locals := 82 } [.ref (AD 0)] (fun H => va_P (gD g) vwCl (wsD g AD LL EE lc ec) H) "java/lang/IllegalStateException" := by
  refine xr_of (cc := cX2_requireRoomForLetter) (maxL := 1) (ret := none) (by decide) rfl (Nat.le_of_ble_eq_true rfl) ?_
  intro p e s m args below meth c ls hx hb hml hts hown hK hP hZ hlocks ht hl
  have hl : lv_has ls 1 [(0, .ref (AD 0))] := hl
  have S : CallFix p m c cX2_requireRoomForLetter 1 s args wsX2_requireRoomForLetter RX2 := ⟨hx, hb, hml, hown, hts⟩
  have iX2 : ∀ w ∈ u_ws RX2 TX2 4, w ∈ wsX2_requireRoomForLetter := by decide +kernel
  have f26 := hts (.fieldLink RX2 26 "LetterSeals" "letterCount" "I") (by decide +kernel)
  refine lv_aload_n hx hb dX2_requireRoomForLetter_0 rfl (lv_at hl 0 rfl) ?_
  refine va_get (D := gD g) (ci := 2) (v := .int (nI (lc))) (C := RX2) (T := TX2) (N := 4) hx hb hts iX2 hown hK.1 hP 0 dk_me rfl 2 (by decide) f26 (fun _ h9 => h9) rfl dX2_requireRoomForLetter_1 ?_
  refine lv_bipush (v := nI (12)) hx hb dX2_requireRoomForLetter_4 (by decide +kernel) ?_
  refine br_lt (a := lc) (b := 12) (tgt := 19) hx hb (by omega) (by omega) dX2_requireRoomForLetter_6 (by decide) (fun c6 => ?_) (fun c6 => ?_)
  · omega
  · exact x_throw (E := "java/lang/IllegalStateException") (text := "there are 12 letters") (ik := 45) (is := 193) (ic := 49) hx hb hlt hown hts (by decide +kernel) (by decide +kernel) (by decide +kernel) (by decide +kernel) (by decide +kernel) (by decide +kernel) hK (List.mem_of_getElem? (i := 2) rfl) (List.mem_of_getElem? (i := 0) rfl) hZ (hl.1.trans hml.symm) dX2_requireRoomForLetter_9 dX2_requireRoomForLetter_12 dX2_requireRoomForLetter_13 dX2_requireRoomForLetter_15 dX2_requireRoomForLetter_18 ht (Nat.le_of_ble_eq_true rfl) (Nat.le_of_ble_eq_true rfl) (Nat.le_of_ble_eq_true rfl) (Nat.le_of_ble_eq_true rfl) hlocks

set_option maxHeartbeats 4000000 in
set_option maxRecDepth 100000 in
/-- requireWrittenSign -/
theorem c_X2_requireWrittenSign (l : Launch) (g : gT) (x : Int32) (hs : (decide (0 ≤ x) && decide (x ≤ 29)) = true) : pMv g l yX2_requireWrittenSign wsX2_requireWrittenSign { frames := 0, cells := 0, slots := 0, locals := 0 } [.int (x)] (fun _ => True) := by
  refine pu_ofV (cc := cX2_requireWrittenSign) (maxL := 1) (by decide) rfl (Nat.le_of_ble_eq_true rfl) ?_
  intro p e s m args below meth c H ls Q hx hb hml hts hown hK hP hl hret
  have hl : lv_has ls 1 [(0, .int (x))] := hl
  have S : CallFix p m c cX2_requireWrittenSign 1 s args wsX2_requireWrittenSign RX2 := ⟨hx, hb, hml, hown, hts⟩
  refine lv_iload_n hx hb dX2_requireWrittenSign_0 rfl (lv_at hl 0 rfl) ?_
  refine lv_if_lt (tgt := 10) hx hb dX2_requireWrittenSign_1 (by decide) (fun c1 => ?_) (fun c1 => ?_)
  · exact absurd hs (by rw [decide_eq_false (Int32.not_le.mpr c1)]; simp)
  · refine lv_iload_n hx hb dX2_requireWrittenSign_4 rfl (lv_at hl 0 rfl) ?_
    refine lv_bipush (v := 29) hx hb dX2_requireWrittenSign_5 (by decide +kernel) ?_
    refine lv_icmp_le (tgt := 20) hx hb dX2_requireWrittenSign_7 (by decide) (fun c7 => ?_) (fun c7 => ?_)
    · exact hret _ _ dX2_requireWrittenSign_20
    · exact absurd hs (by rw [decide_eq_false c7]; simp)

set_option maxHeartbeats 4000000 in
set_option maxRecDepth 100000 in
/-- requireWrittenSign_x -/
theorem c_X2_requireWrittenSign_x (l : Launch) (hlt : l.stackTraces = false) (g : gT) (x : Int32) (hs : (decide (0 ≤ x) && decide (x ≤ 29)) = false) : xM g l yX2_requireWrittenSign wsX2_requireWrittenSign { frames := 6, cells := 1, slots := 6, locals := 82 } [.int (x)] (fun _ => True) "java/lang/IllegalArgumentException" := by
  refine xr_of (cc := cX2_requireWrittenSign) (maxL := 1) (ret := none) (by decide) rfl (Nat.le_of_ble_eq_true rfl) ?_
  intro p e s m args below meth c ls hx hb hml hts hown hK hP hZ hlocks ht hl
  have hl : lv_has ls 1 [(0, .int (x))] := hl
  have S : CallFix p m c cX2_requireWrittenSign 1 s args wsX2_requireWrittenSign RX2 := ⟨hx, hb, hml, hown, hts⟩
  refine lv_iload_n hx hb dX2_requireWrittenSign_0 rfl (lv_at hl 0 rfl) ?_
  refine lv_if_lt (tgt := 10) hx hb dX2_requireWrittenSign_1 (by decide) (fun c1 => ?_) (fun c1 => ?_)
  · exact x_throw (E := "java/lang/IllegalArgumentException") (text := "a sign is 0 to 29") (ik := 104) (is := 195) (ic := 108) hx hb hlt hown hts (by decide +kernel) (by decide +kernel) (by decide +kernel) (by decide +kernel) (by decide +kernel) (by decide +kernel) hK (List.mem_of_getElem? (i := 1) rfl) (List.mem_of_getElem? (i := 2) rfl) hZ (hl.1.trans hml.symm) dX2_requireWrittenSign_10 dX2_requireWrittenSign_13 dX2_requireWrittenSign_14 dX2_requireWrittenSign_16 dX2_requireWrittenSign_19 ht (Nat.le_of_ble_eq_true rfl) (Nat.le_of_ble_eq_true rfl) (Nat.le_of_ble_eq_true rfl) (Nat.le_of_ble_eq_true rfl) hlocks
  · refine lv_iload_n hx hb dX2_requireWrittenSign_4 rfl (lv_at hl 0 rfl) ?_
    refine lv_bipush (v := 29) hx hb dX2_requireWrittenSign_5 (by decide +kernel) ?_
    refine lv_icmp_le (tgt := 20) hx hb dX2_requireWrittenSign_7 (by decide) (fun c7 => ?_) (fun c7 => ?_)
    · exact absurd hs (by rw [decide_eq_true (Int32.not_lt.mp c1), decide_eq_true c7]; decide)
    · exact x_throw (E := "java/lang/IllegalArgumentException") (text := "a sign is 0 to 29") (ik := 104) (is := 195) (ic := 108) hx hb hlt hown hts (by decide +kernel) (by decide +kernel) (by decide +kernel) (by decide +kernel) (by decide +kernel) (by decide +kernel) hK (List.mem_of_getElem? (i := 1) rfl) (List.mem_of_getElem? (i := 2) rfl) hZ (hl.1.trans hml.symm) dX2_requireWrittenSign_10 dX2_requireWrittenSign_13 dX2_requireWrittenSign_14 dX2_requireWrittenSign_16 dX2_requireWrittenSign_19 ht (Nat.le_of_ble_eq_true rfl) (Nat.le_of_ble_eq_true rfl) (Nat.le_of_ble_eq_true rfl) (Nat.le_of_ble_eq_true rfl) hlocks

set_option maxHeartbeats 4000000 in
set_option maxRecDepth 100000 in
/-- requireWindowLength -/
theorem c_X2_requireWindowLength (l : Launch) (g : gT) (t : Nat) (ht1 : 1 ≤ t) (ht2 : t ≤ 40) : pMv g l yX2_requireWindowLength wsX2_requireWindowLength { frames := 0, cells := 0, slots := 0, locals := 0 } [.int (nI t)] (fun _ => True) := by
  refine pu_ofV (cc := cX2_requireWindowLength) (maxL := 1) (by decide) rfl (Nat.le_of_ble_eq_true rfl) ?_
  intro p e s m args below meth c H ls Q hx hb hml hts hown hK hP hl hret
  have hl : lv_has ls 1 [(0, .int (nI t))] := hl
  have S : CallFix p m c cX2_requireWindowLength 1 s args wsX2_requireWindowLength RX2 := ⟨hx, hb, hml, hown, hts⟩
  refine lv_iload_n hx hb dX2_requireWindowLength_0 rfl (lv_at hl 0 rfl) ?_
  refine lv_iconst (v := nI (1)) hx hb dX2_requireWindowLength_1 (by decide +kernel) ?_
  refine br_lt (a := t) (b := 1) (tgt := 11) hx hb (by omega) (by omega) dX2_requireWindowLength_2 (by decide) (fun c2 => ?_) (fun c2 => ?_)
  · omega
  · refine lv_iload_n hx hb dX2_requireWindowLength_5 rfl (lv_at hl 0 rfl) ?_
    refine lv_bipush (v := nI (40)) hx hb dX2_requireWindowLength_6 (by decide +kernel) ?_
    refine br_le (a := t) (b := 40) (tgt := 21) hx hb (by omega) (by omega) dX2_requireWindowLength_8 (by decide) (fun c8 => ?_) (fun c8 => ?_)
    · exact hret _ _ dX2_requireWindowLength_21
    · omega

set_option maxHeartbeats 4000000 in
set_option maxRecDepth 100000 in
/-- requireWindowLength_x -/
theorem c_X2_requireWindowLength_x (l : Launch) (hlt : l.stackTraces = false) (g : gT) (y : Int32) (hy : (decide (1 ≤ y) && decide (y ≤ 40)) = false) : xM g l yX2_requireWindowLength wsX2_requireWindowLength { frames := 6, cells := 1, slots := 6, locals := 82 } [.int (y)] (fun _ => True) "java/lang/IllegalArgumentException" := by
  refine xr_of (cc := cX2_requireWindowLength) (maxL := 1) (ret := none) (by decide) rfl (Nat.le_of_ble_eq_true rfl) ?_
  intro p e s m args below meth c ls hx hb hml hts hown hK hP hZ hlocks ht hl
  have hl : lv_has ls 1 [(0, .int (y))] := hl
  have S : CallFix p m c cX2_requireWindowLength 1 s args wsX2_requireWindowLength RX2 := ⟨hx, hb, hml, hown, hts⟩
  refine lv_iload_n hx hb dX2_requireWindowLength_0 rfl (lv_at hl 0 rfl) ?_
  refine lv_iconst (v := 1) hx hb dX2_requireWindowLength_1 (by decide +kernel) ?_
  refine lv_icmp_lt (tgt := 11) hx hb dX2_requireWindowLength_2 (by decide) (fun c2 => ?_) (fun c2 => ?_)
  · exact x_throw (E := "java/lang/IllegalArgumentException") (text := "a length is 1 to 40") (ik := 104) (is := 197) (ic := 108) hx hb hlt hown hts (by decide +kernel) (by decide +kernel) (by decide +kernel) (by decide +kernel) (by decide +kernel) (by decide +kernel) hK (List.mem_of_getElem? (i := 1) rfl) (List.mem_of_getElem? (i := 12) rfl) hZ (hl.1.trans hml.symm) dX2_requireWindowLength_11 dX2_requireWindowLength_14 dX2_requireWindowLength_15 dX2_requireWindowLength_17 dX2_requireWindowLength_20 ht (Nat.le_of_ble_eq_true rfl) (Nat.le_of_ble_eq_true rfl) (Nat.le_of_ble_eq_true rfl) (Nat.le_of_ble_eq_true rfl) hlocks
  · refine lv_iload_n hx hb dX2_requireWindowLength_5 rfl (lv_at hl 0 rfl) ?_
    refine lv_bipush (v := 40) hx hb dX2_requireWindowLength_6 (by decide +kernel) ?_
    refine lv_icmp_le (tgt := 21) hx hb dX2_requireWindowLength_8 (by decide) (fun c8 => ?_) (fun c8 => ?_)
    · exact absurd hy (by rw [decide_eq_true (Int32.not_lt.mp c2), decide_eq_true c8]; decide)
    · exact x_throw (E := "java/lang/IllegalArgumentException") (text := "a length is 1 to 40") (ik := 104) (is := 197) (ic := 108) hx hb hlt hown hts (by decide +kernel) (by decide +kernel) (by decide +kernel) (by decide +kernel) (by decide +kernel) (by decide +kernel) hK (List.mem_of_getElem? (i := 1) rfl) (List.mem_of_getElem? (i := 12) rfl) hZ (hl.1.trans hml.symm) dX2_requireWindowLength_11 dX2_requireWindowLength_14 dX2_requireWindowLength_15 dX2_requireWindowLength_17 dX2_requireWindowLength_20 ht (Nat.le_of_ble_eq_true rfl) (Nat.le_of_ble_eq_true rfl) (Nat.le_of_ble_eq_true rfl) (Nat.le_of_ble_eq_true rfl) hlocks

set_option maxHeartbeats 4000000 in
set_option maxRecDepth 100000 in
/-- requireSigns -/
theorem c_X2_requireSigns (l : Launch) (g : gT) (h a b : Nat) (f w : Nat → Int32) (n : Nat) (hn : n ≤ 40) (hn1 : 0 < n) : pMv g l yX2_requireSigns wsX2_requireSigns { frames := 0, cells := 0, slots := 0, locals := 0 } [.ref (h)] (fun H => va_P (gD g) vwCl (ltW g h a b f w n) H) := by
  refine pu_ofV (cc := cX2_requireSigns) (maxL := 1) (by decide) rfl (Nat.le_of_ble_eq_true rfl) ?_
  intro p e s m args below meth c H ls Q hx hb hml hts hown hK hP hl hret
  have hl : lv_has ls 1 [(0, .ref (h))] := hl
  have S : CallFix p m c cX2_requireSigns 1 s args wsX2_requireSigns RX2 := ⟨hx, hb, hml, hown, hts⟩
  have iX1 : ∀ w ∈ u_ws RX1 TX1 3, w ∈ wsX2_requireSigns := by decide +kernel
  have n42 : (Cond.fieldLinkNest RX2 42 "LetterSeals$Letter" "count" "I" "LetterSeals").before args s = true := va_Nw.use rfl (hK.2.1 ("LetterSeals", 42, "LetterSeals$Letter", "count", "I") (List.mem_of_getElem? (i := 3) rfl))
  refine lv_aload_n hx hb dX2_requireSigns_0 rfl (lv_at hl 0 rfl) ?_
  refine va_getN (D := gD g) (ci := 1) (v := .int (nI n)) (C := RX1) (T := TX1) (N := 3) hx hb hts iX1 hown hK.1 hP 0 rfl rfl 2 (by decide) n42 (fun _ h9 => h9) rfl dX2_requireSigns_1 ?_
  refine br_gt0 (a := n) (tgt := 17) hx hb (by omega) dX2_requireSigns_4 (by decide) (fun c4 => ?_) (fun c4 => ?_)
  · exact hret _ _ dX2_requireSigns_17
  · omega

set_option maxHeartbeats 4000000 in
set_option maxRecDepth 100000 in
/-- requireSigns_x -/
theorem c_X2_requireSigns_x (l : Launch) (hlt : l.stackTraces = false) (g : gT) (h a b : Nat) (f w : Nat → Int32) (n : Nat) (hn : n ≤ 40) (hn1 : n = 0) : xM g l yX2_requireSigns wsX2_requireSigns { frames := 6, cells := 1, slots := 6, locals := 82 } [.ref (h)] (fun H => va_P (gD g) vwCl (ltW g h a b f w n) H) "java/lang/IllegalStateException" := by
  refine xr_of (cc := cX2_requireSigns) (maxL := 1) (ret := none) (by decide) rfl (Nat.le_of_ble_eq_true rfl) ?_
  intro p e s m args below meth c ls hx hb hml hts hown hK hP hZ hlocks ht hl
  have hl : lv_has ls 1 [(0, .ref (h))] := hl
  have S : CallFix p m c cX2_requireSigns 1 s args wsX2_requireSigns RX2 := ⟨hx, hb, hml, hown, hts⟩
  have iX1 : ∀ w ∈ u_ws RX1 TX1 3, w ∈ wsX2_requireSigns := by decide +kernel
  have n42 : (Cond.fieldLinkNest RX2 42 "LetterSeals$Letter" "count" "I" "LetterSeals").before args s = true := va_Nw.use rfl (hK.2.1 ("LetterSeals", 42, "LetterSeals$Letter", "count", "I") (List.mem_of_getElem? (i := 3) rfl))
  refine lv_aload_n hx hb dX2_requireSigns_0 rfl (lv_at hl 0 rfl) ?_
  refine va_getN (D := gD g) (ci := 1) (v := .int (nI n)) (C := RX1) (T := TX1) (N := 3) hx hb hts iX1 hown hK.1 hP 0 rfl rfl 2 (by decide) n42 (fun _ h9 => h9) rfl dX2_requireSigns_1 ?_
  refine br_gt0 (a := n) (tgt := 17) hx hb (by omega) dX2_requireSigns_4 (by decide) (fun c4 => ?_) (fun c4 => ?_)
  · omega
  · exact x_throw (E := "java/lang/IllegalStateException") (text := "the letter has no signs") (ik := 45) (is := 199) (ic := 49) hx hb hlt hown hts (by decide +kernel) (by decide +kernel) (by decide +kernel) (by decide +kernel) (by decide +kernel) (by decide +kernel) hK (List.mem_of_getElem? (i := 2) rfl) (List.mem_of_getElem? (i := 4) rfl) hZ (hl.1.trans hml.symm) dX2_requireSigns_7 dX2_requireSigns_10 dX2_requireSigns_11 dX2_requireSigns_13 dX2_requireSigns_16 ht (Nat.le_of_ble_eq_true rfl) (Nat.le_of_ble_eq_true rfl) (Nat.le_of_ble_eq_true rfl) (Nat.le_of_ble_eq_true rfl) hlocks

set_option maxHeartbeats 4000000 in
set_option maxRecDepth 100000 in
/-- lastSeal -/
theorem c_X2_lastSeal (l : Launch) (g : gT) (AD : Nat → Nat) (LL : Nat → ltT) (EE : Nat → evT) (LN : Nat → Nat) (lc ec : Nat) (hlc : lc ≤ 12) (hec : ec ≤ 24) (hLL : ∀ i, i < 12 → (LL i).2.2 ≤ 40) (hEE : ∀ q, q < ec → (EE q).1 = nI (LN q) ∧ LN q < lc ∧ (EE q).2.2.1 ≤ 40 ∧ (EE q).2.2.2.1 ≤ 8) : pM g l yX2_lastSeal wsX2_lastSeal { frames := 0, cells := 0, slots := 0, locals := 0 } [.ref (AD 0)] (fun H => va_P (gD g) vwCl (wsD g AD LL EE lc ec) H) (.int (lsD EE ec)) := by
  refine pu_ofI (cc := cX2_lastSeal) (maxL := 1) (by decide) rfl (Nat.le_of_ble_eq_true rfl) ?_
  intro p e s m args below meth c H ls Q hx hb hml hts hown hK hP hl hret
  have hl : lv_has ls 1 [(0, .ref (AD 0))] := hl
  have S : CallFix p m c cX2_lastSeal 1 s args wsX2_lastSeal RX2 := ⟨hx, hb, hml, hown, hts⟩
  have iX0 : ∀ w ∈ u_ws RX0 TX0 8, w ∈ wsX2_lastSeal := by decide +kernel
  have iX2 : ∀ w ∈ u_ws RX2 TX2 4, w ∈ wsX2_lastSeal := by decide +kernel
  have f17 := hts (.fieldLink RX2 17 "LetterSeals" "envelopeRow" "[LLetterSeals$Envelope;") (by decide +kernel)
  have f84 := hts (.fieldLink RX2 84 "LetterSeals" "envelopeCount" "I") (by decide +kernel)
  have n98 : (Cond.fieldLinkNest RX2 98 "LetterSeals$Envelope" "seal" "I" "LetterSeals").before args s = true := va_Nw.use rfl (hK.2.1 ("LetterSeals", 98, "LetterSeals$Envelope", "seal", "I") (List.mem_of_getElem? (i := 6) rfl))
  refine lv_aload_n hx hb dX2_lastSeal_0 rfl (lv_at hl 0 rfl) ?_
  refine va_get (D := gD g) (ci := 2) (v := .int (nI (ec))) (C := RX2) (T := TX2) (N := 4) hx hb hts iX2 hown hK.1 hP 0 dk_me rfl 3 (by decide) f84 (fun _ h9 => h9) rfl dX2_lastSeal_1 ?_
  refine br_le0 (a := ec) (tgt := 24) hx hb (by omega) dX2_lastSeal_4 (by decide) (fun c4 => ?_) (fun c4 => ?_)
  · refine lv_iconst (v := 1) hx hb dX2_lastSeal_24 (by decide +kernel) ?_
    refine lv_toI (z := lsD EE ec) (by first | exact (if_pos c4).symm | exact (if_neg (by omega)).symm) ?_
    exact hret _ _ dX2_lastSeal_25
  · refine lv_aload_n hx hb dX2_lastSeal_7 rfl (lv_at hl 0 rfl) ?_
    refine va_get (D := gD g) (ci := 2) (v := .ref (AD 2)) (C := RX2) (T := TX2) (N := 4) hx hb hts iX2 hown hK.1 hP 0 dk_me rfl 1 (by decide) f17 (fun _ h9 => h9) rfl dX2_lastSeal_8 ?_
    refine lv_aload_n hx hb dX2_lastSeal_11 rfl (lv_at hl 0 rfl) ?_
    refine va_get (D := gD g) (ci := 2) (v := .int (nI (ec))) (C := RX2) (T := TX2) (N := 4) hx hb hts iX2 hown hK.1 hP 0 dk_me rfl 3 (by decide) f84 (fun _ h9 => h9) rfl dX2_lastSeal_12 ?_
    refine lv_iconst (v := nI (1)) hx hb dX2_lastSeal_15 (by decide +kernel) ?_
    refine lv_isub hx hb dX2_lastSeal_16 ?_
    refine lv_toI (z := nI (ec - 1)) (pk_sub (by omega)) ?_
    refine ld_Q (C := "LetterSeals$Envelope") (k := ec - 1) (n := 24) (f := fun q => some (AD (39 + 2 * q))) (r := AD (39 + 2 * (ec - 1))) hx hb hK.1 hP 2 2 dk_er rfl (by omega) (by decide) rfl dX2_lastSeal_17 ?_
    have hE1 := dk_env hP (q := ec - 1) (by omega)
    refine va_getN (D := gD g) (ci := 0) (v := .int ((EE (ec - 1)).2.2.2.2.2.2.1)) (C := RX0) (T := TX0) (N := 8) hx hb hts iX0 hown hK.1 hE1 0 rfl rfl 7 (by decide) n98 (fun _ h9 => h9) rfl dX2_lastSeal_18 ?_
    refine lv_goto (tgt := 25) hx hb dX2_lastSeal_21 (by decide) ?_
    refine lv_toI (z := lsD EE ec) (by first | exact (if_pos c4).symm | exact (if_neg (by omega)).symm) ?_
    exact hret _ _ dX2_lastSeal_25

set_option maxHeartbeats 4000000 in
set_option maxRecDepth 100000 in
/-- addLetter -/
theorem c_X2_addLetter (l : Launch) (g : gT) (AD : Nat → Nat) (LL : Nat → ltT) (EE : Nat → evT) (LN : Nat → Nat) (lc ec : Nat) (hlc : lc ≤ 12) (hec : ec ≤ 24) (hLL : ∀ i, i < 12 → (LL i).2.2 ≤ 40) (hEE : ∀ q, q < ec → (EE q).1 = nI (LN q) ∧ LN q < lc ∧ (EE q).2.2.1 ≤ 40 ∧ (EE q).2.2.2.1 ≤ 8) (hl1 : lc < 12) : wM g l yX2_addLetter wsX2_addLetter { frames := 7, cells := 0, slots := 0, locals := 102 } [.ref (AD 0)] (wsD g AD LL EE lc ec) (some (.int (nI lc))) (wsD g AD LL EE (lc + 1) ec) := by
  refine wr_ofI (cc := cX2_addLetter) (maxL := 1) (by decide) rfl (Nat.le_of_ble_eq_true rfl) ?_
  intro p e s m args below meth c H0 ls A Q hx hb hml hts hown hK hP hD hS hl hret
  have hl : lv_has ls 1 [(0, .ref (AD 0))] := hl
  have S : CallFix p m c cX2_addLetter 1 s args wsX2_addLetter RX2 := ⟨hx, hb, hml, hown, hts⟩
  have iX2 : ∀ w ∈ u_ws RX2 TX2 4, w ∈ wsX2_addLetter := by decide +kernel
  have f26 := hts (.fieldLink RX2 26 "LetterSeals" "letterCount" "I") (by decide +kernel)
  obtain ⟨H, eH⟩ : ∃ H : Heap, H = H0 := ⟨_, rfl⟩
  rw [← eH] at hP ⊢
  have hS : va_S A H0 H [] := by rw [eH]; exact hS
  refine lv_aload_n hx hb dX2_addLetter_0 rfl (lv_at hl 0 rfl) ?_
  refine p_Vv (As := []) (rest := []) S (c_X2_requireRoomForLetter l g AD LL EE LN lc ec hlc hec hLL hEE hl1) (cwV 0 hts gX2_addLetter_X2_requireRoomForLetter rfl rfl rfl (by decide +kernel) ⟨Nat.le_of_ble_eq_true rfl, Nat.le_of_ble_eq_true rfl⟩) hK (va_recv hK.1 hP (ci := 2) (q0 := 0) rfl dk_me) (hP) rfl hl.1 rfl (Nat.le_of_ble_eq_true rfl) dX2_addLetter_1 ⟨Nat.le_of_ble_eq_true rfl, Nat.le_of_ble_eq_true rfl⟩ ?_
  refine lv_aload_n hx hb dX2_addLetter_4 rfl (lv_at hl 0 rfl) ?_
  refine lv_dup hx hb dX2_addLetter_5 rfl ?_
  refine va_get (D := gD g) (ci := 2) (v := .int (nI (lc))) (C := RX2) (T := TX2) (N := 4) hx hb hts iX2 hown hK.1 hP 0 dk_me rfl 2 (by decide) f26 (fun _ h9 => h9) rfl dX2_addLetter_6 ?_
  refine lv_iconst (v := nI (1)) hx hb dX2_addLetter_9 (by decide +kernel) ?_
  refine lv_iadd hx hb dX2_addLetter_10 ?_
  refine lv_toI (z := nI (lc + 1)) (nI_add _ _) ?_
  refine va_put (D := gD g) (ci := 2) (v := .int (nI (lc + 1))) (ty := .int) (C := RX2) (T := TX2) (N := 4) hx hb hts iX2 tyX2 tyX2_ok nmX2 hown hK.1 hP hD hS 0 dk_me rfl 2 (by decide) f26 (fun _ h9 => h9) rfl (by decide +kernel) rfl rfl (Nat.le_of_ble_eq_true rfl) dX2_addLetter_11 (fun H locs hP _ hS => ?_)
  have hP : va_P (gD g) vwCl (wsD g AD LL EE (lc + 1) ec) H := dk_setP hP rfl
  have hD : va_D A (wsD g AD LL EE (lc + 1) ec) := dk_Dsame hD
  refine lv_aload_n hx hb dX2_addLetter_14 rfl (lv_at hl 0 rfl) ?_
  refine va_get (D := gD g) (ci := 2) (v := .int (nI (lc + 1))) (C := RX2) (T := TX2) (N := 4) hx hb hts iX2 hown hK.1 hP 0 dk_me rfl 2 (by decide) f26 (fun _ h9 => h9) rfl dX2_addLetter_15 ?_
  refine lv_iconst (v := nI (1)) hx hb dX2_addLetter_18 (by decide +kernel) ?_
  refine lv_isub hx hb dX2_addLetter_19 ?_
  refine lv_toI (z := nI (lc + 1 - 1)) (pk_sub (by omega)) ?_
  refine lv_toI (z := nI lc) (by rw [Nat.add_sub_cancel]) ?_
  exact hret _ _ _ _ hP hS dX2_addLetter_20

set_option maxHeartbeats 4000000 in
set_option maxRecDepth 100000 in
/-- addLetter_x -/
theorem c_X2_addLetter_x (l : Launch) (hlt : l.stackTraces = false) (g : gT) (AD : Nat → Nat) (LL : Nat → ltT) (EE : Nat → evT) (LN : Nat → Nat) (lc ec : Nat) (hlc : lc ≤ 12) (hec : ec ≤ 24) (hLL : ∀ i, i < 12 → (LL i).2.2 ≤ 40) (hEE : ∀ q, q < ec → (EE q).1 = nI (LN q) ∧ LN q < lc ∧ (EE q).2.2.1 ≤ 40 ∧ (EE q).2.2.2.1 ≤ 8) (hl1 : lc = 12) : xM g l yX2_addLetter wsX2_addLetter { frames := 7, cells := 1, slots := 6, locals := 102 } [.ref (AD 0)] (fun H => va_P (gD g) vwCl (wsD g AD LL EE lc ec) H) "java/lang/IllegalStateException" := by
  refine xr_of (cc := cX2_addLetter) (maxL := 1) (ret := (some .int)) (by decide) rfl (Nat.le_of_ble_eq_true rfl) ?_
  intro p e s m args below meth c ls hx hb hml hts hown hK hP hZ hlocks ht hl
  have hl : lv_has ls 1 [(0, .ref (AD 0))] := hl
  have S : CallFix p m c cX2_addLetter 1 s args wsX2_addLetter RX2 := ⟨hx, hb, hml, hown, hts⟩
  refine lv_aload_n hx hb dX2_addLetter_0 rfl (lv_at hl 0 rfl) ?_
  exact x_V (As := []) (rest := []) S (c_X2_requireRoomForLetter_x l hlt g AD LL EE LN lc ec hlc hec hLL hEE hl1) (cwV 0 hts gX2_addLetter_X2_requireRoomForLetter rfl rfl rfl (by decide +kernel) ⟨Nat.le_of_ble_eq_true rfl, Nat.le_of_ble_eq_true rfl⟩) hK hZ (va_recv hK.1 hP (ci := 2) (q0 := 0) rfl dk_me) (hP) rfl hl.1 rfl (Nat.le_of_ble_eq_true rfl) dX2_addLetter_1 ⟨Nat.le_of_ble_eq_true rfl, Nat.le_of_ble_eq_true rfl⟩ ht hlocks

set_option maxHeartbeats 4000000 in
set_option maxRecDepth 100000 in
/-- copyLetter -/
theorem c_X2_copyLetter (l : Launch) (g : gT) (AD : Nat → Nat) (LL : Nat → ltT) (EE : Nat → evT) (LN : Nat → Nat) (lc ec : Nat) (hlc : lc ≤ 12) (hec : ec ≤ 24) (hLL : ∀ i, i < 12 → (LL i).2.2 ≤ 40) (hEE : ∀ q, q < ec → (EE q).1 = nI (LN q) ∧ LN q < lc ∧ (EE q).2.2.1 ≤ 40 ∧ (EE q).2.2.2.1 ≤ 8) (k : Nat) (hk : k < lc) (hl1 : lc < 12) : wM g l yX2_copyLetter wsX2_copyLetter { frames := 7, cells := 0, slots := 0, locals := 103 } [.ref (AD 0), .int (nI k)] (wsD g AD LL EE lc ec) (some (.int (nI lc))) (wsD g AD (fup LL lc ((flF (LL lc).1 (LL k).1 (LL k).2.2, (LL lc).2.1, (LL k).2.2) : ltT)) EE (lc + 1) ec) := by
  refine wr_ofI (cc := cX2_copyLetter) (maxL := 3) (by decide) rfl (Nat.le_of_ble_eq_true rfl) ?_
  intro p e s m args below meth c H0 ls A Q hx hb hml hts hown hK hP hD hS hl hret
  have hl : lv_has ls 3 [(0, .ref (AD 0)), (1, .int (nI k))] := hl
  have S : CallFix p m c cX2_copyLetter 3 s args wsX2_copyLetter RX2 := ⟨hx, hb, hml, hown, hts⟩
  have iX2 : ∀ w ∈ u_ws RX2 TX2 4, w ∈ wsX2_copyLetter := by decide +kernel
  have f11 := hts (.fieldLink RX2 11 "LetterSeals" "letterRow" "[LLetterSeals$Letter;") (by decide +kernel)
  have f26 := hts (.fieldLink RX2 26 "LetterSeals" "letterCount" "I") (by decide +kernel)
  obtain ⟨H, eH⟩ : ∃ H : Heap, H = H0 := ⟨_, rfl⟩
  rw [← eH] at hP ⊢
  have hS : va_S A H0 H [] := by rw [eH]; exact hS
  refine lv_aload_n hx hb dX2_copyLetter_0 rfl (lv_at hl 0 rfl) ?_
  refine lv_iload_n hx hb dX2_copyLetter_1 rfl (lv_at hl 1 rfl) ?_
  refine p_V (As := [.int (nI k)]) (rest := []) S (c_X2_requireLetter l g AD LL EE LN lc ec hlc hec hLL hEE k hk) (cwV 1 hts gX2_copyLetter_X2_requireLetter rfl rfl rfl (by decide +kernel) ⟨Nat.le_of_ble_eq_true rfl, Nat.le_of_ble_eq_true rfl⟩) hK (va_recv hK.1 hP (ci := 2) (q0 := 0) rfl dk_me) (hP) rfl hl.1 rfl (Nat.le_of_ble_eq_true rfl) dX2_copyLetter_2 ⟨Nat.le_of_ble_eq_true rfl, Nat.le_of_ble_eq_true rfl⟩ ?_
  refine lv_astore_n (lv' := [(2, .ref (AD (3 + 3 * k))), (0, .ref (AD 0)), (1, .int (nI k))]) hx hb dX2_copyLetter_5 rfl hl (by decide) rfl (fun ls hl => ?_)
  refine lv_aload_n hx hb dX2_copyLetter_6 rfl (lv_at hl 1 rfl) ?_
  refine p_Vv (As := []) (rest := []) S (c_X2_requireRoomForLetter l g AD LL EE LN lc ec hlc hec hLL hEE hl1) (cwV 0 hts gX2_copyLetter_X2_requireRoomForLetter rfl rfl rfl (by decide +kernel) ⟨Nat.le_of_ble_eq_true rfl, Nat.le_of_ble_eq_true rfl⟩) hK (va_recv hK.1 hP (ci := 2) (q0 := 0) rfl dk_me) (hP) rfl hl.1 rfl (Nat.le_of_ble_eq_true rfl) dX2_copyLetter_7 ⟨Nat.le_of_ble_eq_true rfl, Nat.le_of_ble_eq_true rfl⟩ ?_
  refine lv_aload_n hx hb dX2_copyLetter_10 rfl (lv_at hl 1 rfl) ?_
  refine va_get (D := gD g) (ci := 2) (v := .ref (AD 1)) (C := RX2) (T := TX2) (N := 4) hx hb hts iX2 hown hK.1 hP 0 dk_me rfl 0 (by decide) f11 (fun _ h9 => h9) rfl dX2_copyLetter_11 ?_
  refine lv_aload_n hx hb dX2_copyLetter_14 rfl (lv_at hl 1 rfl) ?_
  refine va_get (D := gD g) (ci := 2) (v := .int (nI (lc))) (C := RX2) (T := TX2) (N := 4) hx hb hts iX2 hown hK.1 hP 0 dk_me rfl 2 (by decide) f26 (fun _ h9 => h9) rfl dX2_copyLetter_15 ?_
  refine ld_Q (C := "LetterSeals$Letter") (k := lc) (n := 12) (f := fun i => some (AD (3 + 3 * i))) (r := AD (3 + 3 * lc)) hx hb hK.1 hP 1 1 dk_lr rfl (by omega) (by decide) rfl dX2_copyLetter_18 ?_
  refine lv_aload_n hx hb dX2_copyLetter_19 rfl (lv_at hl 0 rfl) ?_
  have hL1 := dk_letter hP (i := lc) (by omega)
  have hL2 := dk_letter hP (i := k) (by omega)
  refine w_V (As := [.ref (AD (3 + 3 * k))]) (rest := []) S (c_X1_copySigns l g (AD (3 + 3 * lc)) (AD (4 + 3 * lc)) (AD (5 + 3 * lc)) (AD (3 + 3 * k)) (AD (4 + 3 * k)) (AD (5 + 3 * k)) ((LL lc).1) ((LL lc).2.1) ((LL k).1) ((LL k).2.1) ((LL lc).2.2) ((LL k).2.2) (hLL _ (by omega)) (hLL _ (by omega))) (cwV 1 hts gX2_copyLetter_X1_copySigns rfl rfl rfl (by decide +kernel) ⟨Nat.le_of_ble_eq_true rfl, Nat.le_of_ble_eq_true rfl⟩) hK (va_recv hK.1 hL1 (ci := 1) (q0 := 0) rfl rfl) (va_P.app hL1 hL2) ((dk_pairD hD (i := lc) (j := k) (by omega) (by omega) (by omega)).weaken (fun _ _ _ _ => trivial)) hS (wA_of (dk_pairD hD (i := lc) (j := k) (by omega) (by omega) (by omega))) rfl hl.1 rfl (Nat.le_of_ble_eq_true rfl) dX2_copyLetter_20 ⟨Nat.le_of_ble_eq_true rfl, Nat.le_of_ble_eq_true rfl⟩ (fun H locs hP1 hz1 hk1 hS => ?_)
  have hP : va_P (gD g) vwCl (wsD g AD (fup LL lc ((flF (LL lc).1 (LL k).1 (LL k).2.2, (LL lc).2.1, (LL k).2.2) : ltT)) EE lc ec) H := dk_upL2 hP hD (i := lc) (j := k) (u := ((flF (LL lc).1 (LL k).1 (LL k).2.2, (LL lc).2.1, (LL k).2.2) : ltT)) (by omega) (by omega) (by omega) hP1 hk1
  have hD : va_D A (wsD g AD (fup LL lc ((flF (LL lc).1 (LL k).1 (LL k).2.2, (LL lc).2.1, (LL k).2.2) : ltT)) EE lc ec) := dk_Dsame hD
  refine lv_aload_n hx hb dX2_copyLetter_23 rfl (lv_at hl 1 rfl) ?_
  refine lv_dup hx hb dX2_copyLetter_24 rfl ?_
  refine va_get (D := gD g) (ci := 2) (v := .int (nI (lc))) (C := RX2) (T := TX2) (N := 4) hx hb hts iX2 hown hK.1 hP 0 dk_me rfl 2 (by decide) f26 (fun _ h9 => h9) rfl dX2_copyLetter_25 ?_
  refine lv_iconst (v := nI (1)) hx hb dX2_copyLetter_28 (by decide +kernel) ?_
  refine lv_iadd hx hb dX2_copyLetter_29 ?_
  refine lv_toI (z := nI (lc + 1)) (nI_add _ _) ?_
  refine va_put (D := gD g) (ci := 2) (v := .int (nI (lc + 1))) (ty := .int) (C := RX2) (T := TX2) (N := 4) hx hb hts iX2 tyX2 tyX2_ok nmX2 hown hK.1 hP hD hS 0 dk_me rfl 2 (by decide) f26 (fun _ h9 => h9) rfl (by decide +kernel) rfl rfl (Nat.le_of_ble_eq_true rfl) dX2_copyLetter_30 (fun H locs hP _ hS => ?_)
  have hP : va_P (gD g) vwCl (wsD g AD (fup LL lc ((flF (LL lc).1 (LL k).1 (LL k).2.2, (LL lc).2.1, (LL k).2.2) : ltT)) EE (lc + 1) ec) H := dk_setP hP rfl
  have hD : va_D A (wsD g AD (fup LL lc ((flF (LL lc).1 (LL k).1 (LL k).2.2, (LL lc).2.1, (LL k).2.2) : ltT)) EE (lc + 1) ec) := dk_Dsame hD
  refine lv_aload_n hx hb dX2_copyLetter_33 rfl (lv_at hl 1 rfl) ?_
  refine va_get (D := gD g) (ci := 2) (v := .int (nI (lc + 1))) (C := RX2) (T := TX2) (N := 4) hx hb hts iX2 hown hK.1 hP 0 dk_me rfl 2 (by decide) f26 (fun _ h9 => h9) rfl dX2_copyLetter_34 ?_
  refine lv_iconst (v := nI (1)) hx hb dX2_copyLetter_37 (by decide +kernel) ?_
  refine lv_isub hx hb dX2_copyLetter_38 ?_
  refine lv_toI (z := nI (lc + 1 - 1)) (pk_sub (by omega)) ?_
  refine lv_toI (z := nI lc) (by rw [Nat.add_sub_cancel]) ?_
  exact hret _ _ _ _ hP hS dX2_copyLetter_39

set_option maxHeartbeats 4000000 in
set_option maxRecDepth 100000 in
/-- copyLetter_x -/
theorem c_X2_copyLetter_x (l : Launch) (hlt : l.stackTraces = false) (g : gT) (AD : Nat → Nat) (LL : Nat → ltT) (EE : Nat → evT) (LN : Nat → Nat) (lc ec : Nat) (hlc : lc ≤ 12) (hec : ec ≤ 24) (hLL : ∀ i, i < 12 → (LL i).2.2 ≤ 40) (hEE : ∀ q, q < ec → (EE q).1 = nI (LN q) ∧ LN q < lc ∧ (EE q).2.2.1 ≤ 40 ∧ (EE q).2.2.2.1 ≤ 8) (x : Int32) (hxb : inB x lc = false) : xM g l yX2_copyLetter wsX2_copyLetter { frames := 7, cells := 1, slots := 6, locals := 103 } [.ref (AD 0), .int (x)] (fun H => va_P (gD g) vwCl (wsD g AD LL EE lc ec) H) "java/lang/IndexOutOfBoundsException" := by
  refine xr_of (cc := cX2_copyLetter) (maxL := 3) (ret := (some .int)) (by decide) rfl (Nat.le_of_ble_eq_true rfl) ?_
  intro p e s m args below meth c ls hx hb hml hts hown hK hP hZ hlocks ht hl
  have hl : lv_has ls 3 [(0, .ref (AD 0)), (1, .int (x))] := hl
  have S : CallFix p m c cX2_copyLetter 3 s args wsX2_copyLetter RX2 := ⟨hx, hb, hml, hown, hts⟩
  refine lv_aload_n hx hb dX2_copyLetter_0 rfl (lv_at hl 0 rfl) ?_
  refine lv_iload_n hx hb dX2_copyLetter_1 rfl (lv_at hl 1 rfl) ?_
  exact x_V (As := [.int (x)]) (rest := []) S (c_X2_requireLetter_x l hlt g AD LL EE LN lc ec hlc hec hLL hEE x hxb) (cwV 1 hts gX2_copyLetter_X2_requireLetter rfl rfl rfl (by decide +kernel) ⟨Nat.le_of_ble_eq_true rfl, Nat.le_of_ble_eq_true rfl⟩) hK hZ (va_recv hK.1 hP (ci := 2) (q0 := 0) rfl dk_me) (hP) rfl hl.1 rfl (Nat.le_of_ble_eq_true rfl) dX2_copyLetter_2 ⟨Nat.le_of_ble_eq_true rfl, Nat.le_of_ble_eq_true rfl⟩ ht hlocks

set_option maxHeartbeats 4000000 in
set_option maxRecDepth 100000 in
/-- copyLetter_s -/
theorem c_X2_copyLetter_s (l : Launch) (hlt : l.stackTraces = false) (g : gT) (AD : Nat → Nat) (LL : Nat → ltT) (EE : Nat → evT) (LN : Nat → Nat) (lc ec : Nat) (hlc : lc ≤ 12) (hec : ec ≤ 24) (hLL : ∀ i, i < 12 → (LL i).2.2 ≤ 40) (hEE : ∀ q, q < ec → (EE q).1 = nI (LN q) ∧ LN q < lc ∧ (EE q).2.2.1 ≤ 40 ∧ (EE q).2.2.2.1 ≤ 8) (k : Nat) (hk : k < lc) (hl1 : lc = 12) : xM g l yX2_copyLetter wsX2_copyLetter { frames := 7, cells := 1, slots := 6, locals := 103 } [.ref (AD 0), .int (nI k)] (fun H => va_P (gD g) vwCl (wsD g AD LL EE lc ec) H) "java/lang/IllegalStateException" := by
  refine xr_of (cc := cX2_copyLetter) (maxL := 3) (ret := (some .int)) (by decide) rfl (Nat.le_of_ble_eq_true rfl) ?_
  intro p e s m args below meth c ls hx hb hml hts hown hK hP hZ hlocks ht hl
  have hl : lv_has ls 3 [(0, .ref (AD 0)), (1, .int (nI k))] := hl
  have S : CallFix p m c cX2_copyLetter 3 s args wsX2_copyLetter RX2 := ⟨hx, hb, hml, hown, hts⟩
  refine lv_aload_n hx hb dX2_copyLetter_0 rfl (lv_at hl 0 rfl) ?_
  refine lv_iload_n hx hb dX2_copyLetter_1 rfl (lv_at hl 1 rfl) ?_
  refine p_V (As := [.int (nI k)]) (rest := []) S (c_X2_requireLetter l g AD LL EE LN lc ec hlc hec hLL hEE k hk) (cwV 1 hts gX2_copyLetter_X2_requireLetter rfl rfl rfl (by decide +kernel) ⟨Nat.le_of_ble_eq_true rfl, Nat.le_of_ble_eq_true rfl⟩) hK (va_recv hK.1 hP (ci := 2) (q0 := 0) rfl dk_me) (hP) rfl hl.1 rfl (Nat.le_of_ble_eq_true rfl) dX2_copyLetter_2 ⟨Nat.le_of_ble_eq_true rfl, Nat.le_of_ble_eq_true rfl⟩ ?_
  refine lv_astore_n (lv' := [(2, .ref (AD (3 + 3 * k))), (0, .ref (AD 0)), (1, .int (nI k))]) hx hb dX2_copyLetter_5 rfl hl (by decide) rfl (fun ls hl => ?_)
  refine lv_aload_n hx hb dX2_copyLetter_6 rfl (lv_at hl 1 rfl) ?_
  exact x_V (As := []) (rest := []) S (c_X2_requireRoomForLetter_x l hlt g AD LL EE LN lc ec hlc hec hLL hEE hl1) (cwV 0 hts gX2_copyLetter_X2_requireRoomForLetter rfl rfl rfl (by decide +kernel) ⟨Nat.le_of_ble_eq_true rfl, Nat.le_of_ble_eq_true rfl⟩) hK hZ (va_recv hK.1 hP (ci := 2) (q0 := 0) rfl dk_me) (hP) rfl hl.1 rfl (Nat.le_of_ble_eq_true rfl) dX2_copyLetter_7 ⟨Nat.le_of_ble_eq_true rfl, Nat.le_of_ble_eq_true rfl⟩ ht hlocks

set_option maxHeartbeats 4000000 in
set_option maxRecDepth 100000 in
/-- write -/
theorem c_X2_write (l : Launch) (g : gT) (AD : Nat → Nat) (LL : Nat → ltT) (EE : Nat → evT) (LN : Nat → Nat) (lc ec : Nat) (hlc : lc ≤ 12) (hec : ec ≤ 24) (hLL : ∀ i, i < 12 → (LL i).2.2 ≤ 40) (hEE : ∀ q, q < ec → (EE q).1 = nI (LN q) ∧ LN q < lc ∧ (EE q).2.2.1 ≤ 40 ∧ (EE q).2.2.2.1 ≤ 8) (k : Nat) (hk : k < lc) (x : Int32) (hs : (decide (0 ≤ x) && decide (x ≤ 29)) = true) (hn1 : (LL k).2.2 < 40) : wM g l yX2_write wsX2_write { frames := 7, cells := 0, slots := 0, locals := 103 } [.ref (AD 0), .int (nI k), .int (x)] (wsD g AD LL EE lc ec) (some (.int (nI ((LL k).2.2 + 1)))) (wsD g AD (fup LL k ((upd (LL k).1 (LL k).2.2 x, (LL k).2.1, (LL k).2.2 + 1) : ltT)) EE lc ec) := by
  refine wr_ofI (cc := cX2_write) (maxL := 4) (by decide) rfl (Nat.le_of_ble_eq_true rfl) ?_
  intro p e s m args below meth c H0 ls A Q hx hb hml hts hown hK hP hD hS hl hret
  have hl : lv_has ls 4 [(0, .ref (AD 0)), (1, .int (nI k)), (2, .int (x))] := hl
  have S : CallFix p m c cX2_write 4 s args wsX2_write RX2 := ⟨hx, hb, hml, hown, hts⟩
  have hk40 := hLL k (by omega)
  have iX1 : ∀ w ∈ u_ws RX1 TX1 3, w ∈ wsX2_write := by decide +kernel
  have n42 : (Cond.fieldLinkNest RX2 42 "LetterSeals$Letter" "count" "I" "LetterSeals").before args s = true := va_Nw.use rfl (hK.2.1 ("LetterSeals", 42, "LetterSeals$Letter", "count", "I") (List.mem_of_getElem? (i := 3) rfl))
  obtain ⟨H, eH⟩ : ∃ H : Heap, H = H0 := ⟨_, rfl⟩
  rw [← eH] at hP ⊢
  have hS : va_S A H0 H [] := by rw [eH]; exact hS
  refine lv_aload_n hx hb dX2_write_0 rfl (lv_at hl 0 rfl) ?_
  refine lv_iload_n hx hb dX2_write_1 rfl (lv_at hl 1 rfl) ?_
  refine p_V (As := [.int (nI k)]) (rest := []) S (c_X2_requireLetter l g AD LL EE LN lc ec hlc hec hLL hEE k hk) (cwV 1 hts gX2_write_X2_requireLetter rfl rfl rfl (by decide +kernel) ⟨Nat.le_of_ble_eq_true rfl, Nat.le_of_ble_eq_true rfl⟩) hK (va_recv hK.1 hP (ci := 2) (q0 := 0) rfl dk_me) (hP) rfl hl.1 rfl (Nat.le_of_ble_eq_true rfl) dX2_write_2 ⟨Nat.le_of_ble_eq_true rfl, Nat.le_of_ble_eq_true rfl⟩ ?_
  refine lv_astore_n (lv' := [(3, .ref (AD (3 + 3 * k))), (0, .ref (AD 0)), (1, .int (nI k)), (2, .int (x))]) hx hb dX2_write_5 rfl hl (by decide) rfl (fun ls hl => ?_)
  refine lv_iload_n hx hb dX2_write_6 rfl (lv_at hl 3 rfl) ?_
  refine p_Sv (As := [.int (x)]) (rest := []) S (c_X2_requireWrittenSign l g x hs) (va_cwS 1 hts gX2_write_X2_requireWrittenSign rfl rfl rfl (by decide +kernel) ⟨Nat.le_of_ble_eq_true rfl, Nat.le_of_ble_eq_true rfl⟩) hK  (trivial) rfl hl.1 rfl (Nat.le_of_ble_eq_true rfl) dX2_write_7 ⟨Nat.le_of_ble_eq_true rfl, Nat.le_of_ble_eq_true rfl⟩ ?_
  refine lv_aload_n hx hb dX2_write_10 rfl (lv_at hl 0 rfl) ?_
  have hL1 := dk_letter hP (i := k) (by omega)
  refine va_getN (D := gD g) (ci := 1) (v := .int (nI ((LL k).2.2))) (C := RX1) (T := TX1) (N := 3) hx hb hts iX1 hown hK.1 hL1 0 rfl rfl 2 (by decide) n42 (fun _ h9 => h9) rfl dX2_write_11 ?_
  refine lv_bipush (v := nI (40)) hx hb dX2_write_14 (by decide +kernel) ?_
  refine br_lt (a := (LL k).2.2) (b := 40) (tgt := 29) hx hb (by omega) (by omega) dX2_write_16 (by decide) (fun c16 => ?_) (fun c16 => ?_)
  · refine lv_aload_n hx hb dX2_write_29 rfl (lv_at hl 0 rfl) ?_
    refine lv_iload_n hx hb dX2_write_30 rfl (lv_at hl 3 rfl) ?_
    refine w_V (As := [.int (x)]) (rest := []) S (c_X1_append l g (AD (3 + 3 * k)) (AD (4 + 3 * k)) (AD (5 + 3 * k)) ((LL k).1) ((LL k).2.1) ((LL k).2.2) (hLL _ (by omega)) x hn1) (cwV 1 hts gX2_write_X1_append rfl rfl rfl (by decide +kernel) ⟨Nat.le_of_ble_eq_true rfl, Nat.le_of_ble_eq_true rfl⟩) hK (va_recv hK.1 hL1 (ci := 1) (q0 := 0) rfl rfl) (hL1) ((dk_letterD hD (i := k) (by omega)).weaken (fun _ _ _ _ => trivial)) hS (wA_of (dk_letterD hD (i := k) (by omega))) rfl hl.1 rfl (Nat.le_of_ble_eq_true rfl) dX2_write_31 ⟨Nat.le_of_ble_eq_true rfl, Nat.le_of_ble_eq_true rfl⟩ (fun H locs hP1 hz1 hk1 hS => ?_)
    have hL0 := hP1
    have hP : va_P (gD g) vwCl (wsD g AD (fup LL k ((upd (LL k).1 (LL k).2.2 x, (LL k).2.1, (LL k).2.2 + 1) : ltT)) EE lc ec) H := dk_upL hP hD (i := k) (u := ((upd (LL k).1 (LL k).2.2 x, (LL k).2.1, (LL k).2.2 + 1) : ltT)) (by omega) hP1 (fun _ h9 => ltX_wA h9) hk1
    have hD : va_D A (wsD g AD (fup LL k ((upd (LL k).1 (LL k).2.2 x, (LL k).2.1, (LL k).2.2 + 1) : ltT)) EE lc ec) := dk_Dsame hD
    refine lv_aload_n hx hb dX2_write_34 rfl (lv_at hl 0 rfl) ?_
    refine va_getN (D := gD g) (ci := 1) (v := .int (nI ((LL k).2.2 + 1))) (C := RX1) (T := TX1) (N := 3) hx hb hts iX1 hown hK.1 hL0 0 rfl rfl 2 (by decide) n42 (fun _ h9 => h9) rfl dX2_write_35 ?_
    exact hret _ _ _ _ hP hS dX2_write_38
  · omega

set_option maxHeartbeats 4000000 in
set_option maxRecDepth 100000 in
/-- write_x -/
theorem c_X2_write_x (l : Launch) (hlt : l.stackTraces = false) (g : gT) (AD : Nat → Nat) (LL : Nat → ltT) (EE : Nat → evT) (LN : Nat → Nat) (lc ec : Nat) (hlc : lc ≤ 12) (hec : ec ≤ 24) (hLL : ∀ i, i < 12 → (LL i).2.2 ≤ 40) (hEE : ∀ q, q < ec → (EE q).1 = nI (LN q) ∧ LN q < lc ∧ (EE q).2.2.1 ≤ 40 ∧ (EE q).2.2.2.1 ≤ 8) (x : Int32) (hxb : inB x lc = false) (y : Int32) : xM g l yX2_write wsX2_write { frames := 7, cells := 1, slots := 6, locals := 103 } [.ref (AD 0), .int (x), .int (y)] (fun H => va_P (gD g) vwCl (wsD g AD LL EE lc ec) H) "java/lang/IndexOutOfBoundsException" := by
  refine xr_of (cc := cX2_write) (maxL := 4) (ret := (some .int)) (by decide) rfl (Nat.le_of_ble_eq_true rfl) ?_
  intro p e s m args below meth c ls hx hb hml hts hown hK hP hZ hlocks ht hl
  have hl : lv_has ls 4 [(0, .ref (AD 0)), (1, .int (x)), (2, .int (y))] := hl
  have S : CallFix p m c cX2_write 4 s args wsX2_write RX2 := ⟨hx, hb, hml, hown, hts⟩
  refine lv_aload_n hx hb dX2_write_0 rfl (lv_at hl 0 rfl) ?_
  refine lv_iload_n hx hb dX2_write_1 rfl (lv_at hl 1 rfl) ?_
  exact x_V (As := [.int (x)]) (rest := []) S (c_X2_requireLetter_x l hlt g AD LL EE LN lc ec hlc hec hLL hEE x hxb) (cwV 1 hts gX2_write_X2_requireLetter rfl rfl rfl (by decide +kernel) ⟨Nat.le_of_ble_eq_true rfl, Nat.le_of_ble_eq_true rfl⟩) hK hZ (va_recv hK.1 hP (ci := 2) (q0 := 0) rfl dk_me) (hP) rfl hl.1 rfl (Nat.le_of_ble_eq_true rfl) dX2_write_2 ⟨Nat.le_of_ble_eq_true rfl, Nat.le_of_ble_eq_true rfl⟩ ht hlocks

set_option maxHeartbeats 4000000 in
set_option maxRecDepth 100000 in
/-- write_a -/
theorem c_X2_write_a (l : Launch) (hlt : l.stackTraces = false) (g : gT) (AD : Nat → Nat) (LL : Nat → ltT) (EE : Nat → evT) (LN : Nat → Nat) (lc ec : Nat) (hlc : lc ≤ 12) (hec : ec ≤ 24) (hLL : ∀ i, i < 12 → (LL i).2.2 ≤ 40) (hEE : ∀ q, q < ec → (EE q).1 = nI (LN q) ∧ LN q < lc ∧ (EE q).2.2.1 ≤ 40 ∧ (EE q).2.2.2.1 ≤ 8) (k : Nat) (hk : k < lc) (x : Int32) (hs : (decide (0 ≤ x) && decide (x ≤ 29)) = false) : xM g l yX2_write wsX2_write { frames := 7, cells := 1, slots := 6, locals := 103 } [.ref (AD 0), .int (nI k), .int (x)] (fun H => va_P (gD g) vwCl (wsD g AD LL EE lc ec) H) "java/lang/IllegalArgumentException" := by
  refine xr_of (cc := cX2_write) (maxL := 4) (ret := (some .int)) (by decide) rfl (Nat.le_of_ble_eq_true rfl) ?_
  intro p e s m args below meth c ls hx hb hml hts hown hK hP hZ hlocks ht hl
  have hl : lv_has ls 4 [(0, .ref (AD 0)), (1, .int (nI k)), (2, .int (x))] := hl
  have S : CallFix p m c cX2_write 4 s args wsX2_write RX2 := ⟨hx, hb, hml, hown, hts⟩
  refine lv_aload_n hx hb dX2_write_0 rfl (lv_at hl 0 rfl) ?_
  refine lv_iload_n hx hb dX2_write_1 rfl (lv_at hl 1 rfl) ?_
  refine p_V (As := [.int (nI k)]) (rest := []) S (c_X2_requireLetter l g AD LL EE LN lc ec hlc hec hLL hEE k hk) (cwV 1 hts gX2_write_X2_requireLetter rfl rfl rfl (by decide +kernel) ⟨Nat.le_of_ble_eq_true rfl, Nat.le_of_ble_eq_true rfl⟩) hK (va_recv hK.1 hP (ci := 2) (q0 := 0) rfl dk_me) (hP) rfl hl.1 rfl (Nat.le_of_ble_eq_true rfl) dX2_write_2 ⟨Nat.le_of_ble_eq_true rfl, Nat.le_of_ble_eq_true rfl⟩ ?_
  refine lv_astore_n (lv' := [(3, .ref (AD (3 + 3 * k))), (0, .ref (AD 0)), (1, .int (nI k)), (2, .int (x))]) hx hb dX2_write_5 rfl hl (by decide) rfl (fun ls hl => ?_)
  refine lv_iload_n hx hb dX2_write_6 rfl (lv_at hl 3 rfl) ?_
  exact x_S (As := [.int (x)]) (rest := []) S (c_X2_requireWrittenSign_x l hlt g x hs) (va_cwS 1 hts gX2_write_X2_requireWrittenSign rfl rfl rfl (by decide +kernel) ⟨Nat.le_of_ble_eq_true rfl, Nat.le_of_ble_eq_true rfl⟩) hK hZ  (trivial) rfl hl.1 rfl (Nat.le_of_ble_eq_true rfl) dX2_write_7 ⟨Nat.le_of_ble_eq_true rfl, Nat.le_of_ble_eq_true rfl⟩ ht hlocks

set_option maxHeartbeats 4000000 in
set_option maxRecDepth 100000 in
/-- write_s -/
theorem c_X2_write_s (l : Launch) (hlt : l.stackTraces = false) (g : gT) (AD : Nat → Nat) (LL : Nat → ltT) (EE : Nat → evT) (LN : Nat → Nat) (lc ec : Nat) (hlc : lc ≤ 12) (hec : ec ≤ 24) (hLL : ∀ i, i < 12 → (LL i).2.2 ≤ 40) (hEE : ∀ q, q < ec → (EE q).1 = nI (LN q) ∧ LN q < lc ∧ (EE q).2.2.1 ≤ 40 ∧ (EE q).2.2.2.1 ≤ 8) (k : Nat) (hk : k < lc) (x : Int32) (hs : (decide (0 ≤ x) && decide (x ≤ 29)) = true) (hn1 : (LL k).2.2 = 40) : xM g l yX2_write wsX2_write { frames := 7, cells := 1, slots := 6, locals := 103 } [.ref (AD 0), .int (nI k), .int (x)] (fun H => va_P (gD g) vwCl (wsD g AD LL EE lc ec) H) "java/lang/IllegalStateException" := by
  refine xr_of (cc := cX2_write) (maxL := 4) (ret := (some .int)) (by decide) rfl (Nat.le_of_ble_eq_true rfl) ?_
  intro p e s m args below meth c ls hx hb hml hts hown hK hP hZ hlocks ht hl
  have hl : lv_has ls 4 [(0, .ref (AD 0)), (1, .int (nI k)), (2, .int (x))] := hl
  have S : CallFix p m c cX2_write 4 s args wsX2_write RX2 := ⟨hx, hb, hml, hown, hts⟩
  have iX1 : ∀ w ∈ u_ws RX1 TX1 3, w ∈ wsX2_write := by decide +kernel
  have n42 : (Cond.fieldLinkNest RX2 42 "LetterSeals$Letter" "count" "I" "LetterSeals").before args s = true := va_Nw.use rfl (hK.2.1 ("LetterSeals", 42, "LetterSeals$Letter", "count", "I") (List.mem_of_getElem? (i := 3) rfl))
  refine lv_aload_n hx hb dX2_write_0 rfl (lv_at hl 0 rfl) ?_
  refine lv_iload_n hx hb dX2_write_1 rfl (lv_at hl 1 rfl) ?_
  refine p_V (As := [.int (nI k)]) (rest := []) S (c_X2_requireLetter l g AD LL EE LN lc ec hlc hec hLL hEE k hk) (cwV 1 hts gX2_write_X2_requireLetter rfl rfl rfl (by decide +kernel) ⟨Nat.le_of_ble_eq_true rfl, Nat.le_of_ble_eq_true rfl⟩) hK (va_recv hK.1 hP (ci := 2) (q0 := 0) rfl dk_me) (hP) rfl hl.1 rfl (Nat.le_of_ble_eq_true rfl) dX2_write_2 ⟨Nat.le_of_ble_eq_true rfl, Nat.le_of_ble_eq_true rfl⟩ ?_
  refine lv_astore_n (lv' := [(3, .ref (AD (3 + 3 * k))), (0, .ref (AD 0)), (1, .int (nI k)), (2, .int (x))]) hx hb dX2_write_5 rfl hl (by decide) rfl (fun ls hl => ?_)
  refine lv_iload_n hx hb dX2_write_6 rfl (lv_at hl 3 rfl) ?_
  refine p_Sv (As := [.int (x)]) (rest := []) S (c_X2_requireWrittenSign l g x hs) (va_cwS 1 hts gX2_write_X2_requireWrittenSign rfl rfl rfl (by decide +kernel) ⟨Nat.le_of_ble_eq_true rfl, Nat.le_of_ble_eq_true rfl⟩) hK  (trivial) rfl hl.1 rfl (Nat.le_of_ble_eq_true rfl) dX2_write_7 ⟨Nat.le_of_ble_eq_true rfl, Nat.le_of_ble_eq_true rfl⟩ ?_
  refine lv_aload_n hx hb dX2_write_10 rfl (lv_at hl 0 rfl) ?_
  have hL1 := dk_letter hP (i := k) (by omega)
  refine va_getN (D := gD g) (ci := 1) (v := .int (nI ((LL k).2.2))) (C := RX1) (T := TX1) (N := 3) hx hb hts iX1 hown hK.1 hL1 0 rfl rfl 2 (by decide) n42 (fun _ h9 => h9) rfl dX2_write_11 ?_
  refine lv_bipush (v := nI (40)) hx hb dX2_write_14 (by decide +kernel) ?_
  refine br_lt (a := (LL k).2.2) (b := 40) (tgt := 29) hx hb (by omega) (by omega) dX2_write_16 (by decide) (fun c16 => ?_) (fun c16 => ?_)
  · omega
  · exact x_throw (E := "java/lang/IllegalStateException") (text := "the letter is full") (ik := 45) (is := 47) (ic := 49) hx hb hlt hown hts (by decide +kernel) (by decide +kernel) (by decide +kernel) (by decide +kernel) (by decide +kernel) (by decide +kernel) hK (List.mem_of_getElem? (i := 2) rfl) (List.mem_of_getElem? (i := 3) rfl) hZ (hl.1.trans hml.symm) dX2_write_19 dX2_write_22 dX2_write_23 dX2_write_25 dX2_write_28 ht (Nat.le_of_ble_eq_true rfl) (Nat.le_of_ble_eq_true rfl) (Nat.le_of_ble_eq_true rfl) (Nat.le_of_ble_eq_true rfl) hlocks

set_option maxHeartbeats 4000000 in
set_option maxRecDepth 100000 in
/-- erase -/
theorem c_X2_erase (l : Launch) (g : gT) (AD : Nat → Nat) (LL : Nat → ltT) (EE : Nat → evT) (LN : Nat → Nat) (lc ec : Nat) (hlc : lc ≤ 12) (hec : ec ≤ 24) (hLL : ∀ i, i < 12 → (LL i).2.2 ≤ 40) (hEE : ∀ q, q < ec → (EE q).1 = nI (LN q) ∧ LN q < lc ∧ (EE q).2.2.1 ≤ 40 ∧ (EE q).2.2.2.1 ≤ 8) (k : Nat) (hk : k < lc) (hn1 : 0 < (LL k).2.2) : wM g l yX2_erase wsX2_erase { frames := 7, cells := 0, slots := 0, locals := 103 } [.ref (AD 0), .int (nI k)] (wsD g AD LL EE lc ec) (some (.int ((LL k).1 ((LL k).2.2 - 1)))) (wsD g AD (fup LL k (((LL k).1, (LL k).2.1, (LL k).2.2 - 1) : ltT)) EE lc ec) := by
  refine wr_ofI (cc := cX2_erase) (maxL := 3) (by decide) rfl (Nat.le_of_ble_eq_true rfl) ?_
  intro p e s m args below meth c H0 ls A Q hx hb hml hts hown hK hP hD hS hl hret
  have hl : lv_has ls 3 [(0, .ref (AD 0)), (1, .int (nI k))] := hl
  have S : CallFix p m c cX2_erase 3 s args wsX2_erase RX2 := ⟨hx, hb, hml, hown, hts⟩
  obtain ⟨H, eH⟩ : ∃ H : Heap, H = H0 := ⟨_, rfl⟩
  rw [← eH] at hP ⊢
  have hS : va_S A H0 H [] := by rw [eH]; exact hS
  refine lv_aload_n hx hb dX2_erase_0 rfl (lv_at hl 0 rfl) ?_
  refine lv_iload_n hx hb dX2_erase_1 rfl (lv_at hl 1 rfl) ?_
  refine p_V (As := [.int (nI k)]) (rest := []) S (c_X2_requireLetter l g AD LL EE LN lc ec hlc hec hLL hEE k hk) (cwV 1 hts gX2_erase_X2_requireLetter rfl rfl rfl (by decide +kernel) ⟨Nat.le_of_ble_eq_true rfl, Nat.le_of_ble_eq_true rfl⟩) hK (va_recv hK.1 hP (ci := 2) (q0 := 0) rfl dk_me) (hP) rfl hl.1 rfl (Nat.le_of_ble_eq_true rfl) dX2_erase_2 ⟨Nat.le_of_ble_eq_true rfl, Nat.le_of_ble_eq_true rfl⟩ ?_
  refine lv_astore_n (lv' := [(2, .ref (AD (3 + 3 * k))), (0, .ref (AD 0)), (1, .int (nI k))]) hx hb dX2_erase_5 rfl hl (by decide) rfl (fun ls hl => ?_)
  refine lv_aload_n hx hb dX2_erase_6 rfl (lv_at hl 0 rfl) ?_
  have hL1 := dk_letter hP (i := k) (by omega)
  refine p_Sv (As := [.ref (AD (3 + 3 * k))]) (rest := []) S (c_X2_requireSigns l g (AD (3 + 3 * k)) (AD (4 + 3 * k)) (AD (5 + 3 * k)) ((LL k).1) ((LL k).2.1) ((LL k).2.2) (hLL _ (by omega)) hn1) (va_cwS 1 hts gX2_erase_X2_requireSigns rfl rfl rfl (by decide +kernel) ⟨Nat.le_of_ble_eq_true rfl, Nat.le_of_ble_eq_true rfl⟩) hK  (hL1) rfl hl.1 rfl (Nat.le_of_ble_eq_true rfl) dX2_erase_7 ⟨Nat.le_of_ble_eq_true rfl, Nat.le_of_ble_eq_true rfl⟩ ?_
  refine lv_aload_n hx hb dX2_erase_10 rfl (lv_at hl 0 rfl) ?_
  refine w_V (As := []) (rest := []) S (c_X1_removeLast l g (AD (3 + 3 * k)) (AD (4 + 3 * k)) (AD (5 + 3 * k)) ((LL k).1) ((LL k).2.1) ((LL k).2.2) (hLL _ (by omega)) hn1) (cwV 0 hts gX2_erase_X1_removeLast rfl rfl rfl (by decide +kernel) ⟨Nat.le_of_ble_eq_true rfl, Nat.le_of_ble_eq_true rfl⟩) hK (va_recv hK.1 hL1 (ci := 1) (q0 := 0) rfl rfl) (hL1) ((dk_letterD hD (i := k) (by omega)).weaken (fun _ _ _ _ => trivial)) hS (wA_of (dk_letterD hD (i := k) (by omega))) rfl hl.1 rfl (Nat.le_of_ble_eq_true rfl) dX2_erase_11 ⟨Nat.le_of_ble_eq_true rfl, Nat.le_of_ble_eq_true rfl⟩ (fun H locs hP1 hz1 hk1 hS => ?_)
  have hL0 := hP1
  have hP : va_P (gD g) vwCl (wsD g AD (fup LL k (((LL k).1, (LL k).2.1, (LL k).2.2 - 1) : ltT)) EE lc ec) H := dk_upL hP hD (i := k) (u := (((LL k).1, (LL k).2.1, (LL k).2.2 - 1) : ltT)) (by omega) hP1 (fun _ h9 => ltX_wA h9) hk1
  have hD : va_D A (wsD g AD (fup LL k (((LL k).1, (LL k).2.1, (LL k).2.2 - 1) : ltT)) EE lc ec) := dk_Dsame hD
  exact hret _ _ _ _ hP hS dX2_erase_14

set_option maxHeartbeats 4000000 in
set_option maxRecDepth 100000 in
/-- erase_x -/
theorem c_X2_erase_x (l : Launch) (hlt : l.stackTraces = false) (g : gT) (AD : Nat → Nat) (LL : Nat → ltT) (EE : Nat → evT) (LN : Nat → Nat) (lc ec : Nat) (hlc : lc ≤ 12) (hec : ec ≤ 24) (hLL : ∀ i, i < 12 → (LL i).2.2 ≤ 40) (hEE : ∀ q, q < ec → (EE q).1 = nI (LN q) ∧ LN q < lc ∧ (EE q).2.2.1 ≤ 40 ∧ (EE q).2.2.2.1 ≤ 8) (x : Int32) (hxb : inB x lc = false) : xM g l yX2_erase wsX2_erase { frames := 7, cells := 1, slots := 6, locals := 103 } [.ref (AD 0), .int (x)] (fun H => va_P (gD g) vwCl (wsD g AD LL EE lc ec) H) "java/lang/IndexOutOfBoundsException" := by
  refine xr_of (cc := cX2_erase) (maxL := 3) (ret := (some .int)) (by decide) rfl (Nat.le_of_ble_eq_true rfl) ?_
  intro p e s m args below meth c ls hx hb hml hts hown hK hP hZ hlocks ht hl
  have hl : lv_has ls 3 [(0, .ref (AD 0)), (1, .int (x))] := hl
  have S : CallFix p m c cX2_erase 3 s args wsX2_erase RX2 := ⟨hx, hb, hml, hown, hts⟩
  refine lv_aload_n hx hb dX2_erase_0 rfl (lv_at hl 0 rfl) ?_
  refine lv_iload_n hx hb dX2_erase_1 rfl (lv_at hl 1 rfl) ?_
  exact x_V (As := [.int (x)]) (rest := []) S (c_X2_requireLetter_x l hlt g AD LL EE LN lc ec hlc hec hLL hEE x hxb) (cwV 1 hts gX2_erase_X2_requireLetter rfl rfl rfl (by decide +kernel) ⟨Nat.le_of_ble_eq_true rfl, Nat.le_of_ble_eq_true rfl⟩) hK hZ (va_recv hK.1 hP (ci := 2) (q0 := 0) rfl dk_me) (hP) rfl hl.1 rfl (Nat.le_of_ble_eq_true rfl) dX2_erase_2 ⟨Nat.le_of_ble_eq_true rfl, Nat.le_of_ble_eq_true rfl⟩ ht hlocks

set_option maxHeartbeats 4000000 in
set_option maxRecDepth 100000 in
/-- erase_s -/
theorem c_X2_erase_s (l : Launch) (hlt : l.stackTraces = false) (g : gT) (AD : Nat → Nat) (LL : Nat → ltT) (EE : Nat → evT) (LN : Nat → Nat) (lc ec : Nat) (hlc : lc ≤ 12) (hec : ec ≤ 24) (hLL : ∀ i, i < 12 → (LL i).2.2 ≤ 40) (hEE : ∀ q, q < ec → (EE q).1 = nI (LN q) ∧ LN q < lc ∧ (EE q).2.2.1 ≤ 40 ∧ (EE q).2.2.2.1 ≤ 8) (k : Nat) (hk : k < lc) (hn1 : (LL k).2.2 = 0) : xM g l yX2_erase wsX2_erase { frames := 7, cells := 1, slots := 6, locals := 103 } [.ref (AD 0), .int (nI k)] (fun H => va_P (gD g) vwCl (wsD g AD LL EE lc ec) H) "java/lang/IllegalStateException" := by
  refine xr_of (cc := cX2_erase) (maxL := 3) (ret := (some .int)) (by decide) rfl (Nat.le_of_ble_eq_true rfl) ?_
  intro p e s m args below meth c ls hx hb hml hts hown hK hP hZ hlocks ht hl
  have hl : lv_has ls 3 [(0, .ref (AD 0)), (1, .int (nI k))] := hl
  have S : CallFix p m c cX2_erase 3 s args wsX2_erase RX2 := ⟨hx, hb, hml, hown, hts⟩
  refine lv_aload_n hx hb dX2_erase_0 rfl (lv_at hl 0 rfl) ?_
  refine lv_iload_n hx hb dX2_erase_1 rfl (lv_at hl 1 rfl) ?_
  refine p_V (As := [.int (nI k)]) (rest := []) S (c_X2_requireLetter l g AD LL EE LN lc ec hlc hec hLL hEE k hk) (cwV 1 hts gX2_erase_X2_requireLetter rfl rfl rfl (by decide +kernel) ⟨Nat.le_of_ble_eq_true rfl, Nat.le_of_ble_eq_true rfl⟩) hK (va_recv hK.1 hP (ci := 2) (q0 := 0) rfl dk_me) (hP) rfl hl.1 rfl (Nat.le_of_ble_eq_true rfl) dX2_erase_2 ⟨Nat.le_of_ble_eq_true rfl, Nat.le_of_ble_eq_true rfl⟩ ?_
  refine lv_astore_n (lv' := [(2, .ref (AD (3 + 3 * k))), (0, .ref (AD 0)), (1, .int (nI k))]) hx hb dX2_erase_5 rfl hl (by decide) rfl (fun ls hl => ?_)
  refine lv_aload_n hx hb dX2_erase_6 rfl (lv_at hl 0 rfl) ?_
  have hL1 := dk_letter hP (i := k) (by omega)
  exact x_S (As := [.ref (AD (3 + 3 * k))]) (rest := []) S (c_X2_requireSigns_x l hlt g (AD (3 + 3 * k)) (AD (4 + 3 * k)) (AD (5 + 3 * k)) ((LL k).1) ((LL k).2.1) ((LL k).2.2) (hLL _ (by omega)) hn1) (va_cwS 1 hts gX2_erase_X2_requireSigns rfl rfl rfl (by decide +kernel) ⟨Nat.le_of_ble_eq_true rfl, Nat.le_of_ble_eq_true rfl⟩) hK hZ  (hL1) rfl hl.1 rfl (Nat.le_of_ble_eq_true rfl) dX2_erase_7 ⟨Nat.le_of_ble_eq_true rfl, Nat.le_of_ble_eq_true rfl⟩ ht hlocks

set_option maxHeartbeats 4000000 in
set_option maxRecDepth 100000 in
/-- forge -/
theorem c_X2_forge (l : Launch) (g : gT) (AD : Nat → Nat) (LL : Nat → ltT) (EE : Nat → evT) (LN : Nat → Nat) (lc ec : Nat) (hlc : lc ≤ 12) (hec : ec ≤ 24) (hLL : ∀ i, i < 12 → (LL i).2.2 ≤ 40) (hEE : ∀ q, q < ec → (EE q).1 = nI (LN q) ∧ LN q < lc ∧ (EE q).2.2.1 ≤ 40 ∧ (EE q).2.2.2.1 ≤ 8) (k : Nat) (hk : k < lc) (j : Nat) (hj : j < (LL k).2.2) (hz : ¬ (LL k).1 j = 27) : wM g l yX2_forge wsX2_forge { frames := 8, cells := 0, slots := 0, locals := 126 } [.ref (AD 0), .int (nI k), .int (nI j)] (wsD g AD LL EE lc ec) (some (.int ((LL k).1 j))) (wsD g AD (fup LL k ((upd (LL k).1 j 27, (LL k).2.1, (LL k).2.2) : ltT)) EE lc ec) := by
  refine wr_ofI (cc := cX2_forge) (maxL := 4) (by decide) rfl (Nat.le_of_ble_eq_true rfl) ?_
  intro p e s m args below meth c H0 ls A Q hx hb hml hts hown hK hP hD hS hl hret
  have hl : lv_has ls 4 [(0, .ref (AD 0)), (1, .int (nI k)), (2, .int (nI j))] := hl
  have S : CallFix p m c cX2_forge 4 s args wsX2_forge RX2 := ⟨hx, hb, hml, hown, hts⟩
  have hk40 := hLL k (by omega)
  have iX1 : ∀ w ∈ u_ws RX1 TX1 3, w ∈ wsX2_forge := by decide +kernel
  have n66 : (Cond.fieldLinkNest RX2 66 "LetterSeals$Letter" "signs" "[I" "LetterSeals").before args s = true := va_Nw.use rfl (hK.2.1 ("LetterSeals", 66, "LetterSeals$Letter", "signs", "[I") (List.mem_of_getElem? (i := 0) rfl))
  obtain ⟨H, eH⟩ : ∃ H : Heap, H = H0 := ⟨_, rfl⟩
  rw [← eH] at hP ⊢
  have hS : va_S A H0 H [] := by rw [eH]; exact hS
  refine lv_aload_n hx hb dX2_forge_0 rfl (lv_at hl 0 rfl) ?_
  refine lv_iload_n hx hb dX2_forge_1 rfl (lv_at hl 1 rfl) ?_
  refine lv_iload_n hx hb dX2_forge_2 rfl (lv_at hl 2 rfl) ?_
  refine p_V (As := [.int (nI k), .int (nI j)]) (rest := []) S (c_X2_requireLetterWithPlace l g AD LL EE LN lc ec hlc hec hLL hEE k hk j hj) (cwV 2 hts gX2_forge_X2_requireLetterWithPlace rfl rfl rfl (by decide +kernel) ⟨Nat.le_of_ble_eq_true rfl, Nat.le_of_ble_eq_true rfl⟩) hK (va_recv hK.1 hP (ci := 2) (q0 := 0) rfl dk_me) (hP) rfl hl.1 rfl (Nat.le_of_ble_eq_true rfl) dX2_forge_3 ⟨Nat.le_of_ble_eq_true rfl, Nat.le_of_ble_eq_true rfl⟩ ?_
  refine lv_astore_n (lv' := [(3, .ref (AD (3 + 3 * k))), (0, .ref (AD 0)), (1, .int (nI k)), (2, .int (nI j))]) hx hb dX2_forge_6 rfl hl (by decide) rfl (fun ls hl => ?_)
  refine lv_aload_n hx hb dX2_forge_7 rfl (lv_at hl 0 rfl) ?_
  have hL1 := dk_letter hP (i := k) (by omega)
  refine va_getN (D := gD g) (ci := 1) (v := .ref (AD (4 + 3 * k))) (C := RX1) (T := TX1) (N := 3) hx hb hts iX1 hown hK.1 hL1 0 rfl rfl 0 (by decide) n66 (fun _ h9 => h9) rfl dX2_forge_8 ?_
  refine lv_iload_n hx hb dX2_forge_11 rfl (lv_at hl 3 rfl) ?_
  refine ld_I (k := j) (n := 40) (f := (LL k).1) hx hb hK.1 hL1 1 rfl (by omega) (by omega) dX2_forge_12 ?_
  refine lv_bipush (v := 27) hx hb dX2_forge_13 (by decide +kernel) ?_
  refine lv_icmp_ne (tgt := 28) hx hb dX2_forge_15 (by decide) (fun c15 => ?_) (fun c15 => ?_)
  · refine lv_aload_n hx hb dX2_forge_28 rfl (lv_at hl 0 rfl) ?_
    refine lv_iload_n hx hb dX2_forge_29 rfl (lv_at hl 3 rfl) ?_
    refine lv_bipush (v := 27) hx hb dX2_forge_30 (by decide +kernel) ?_
    refine w_V (As := [.int (nI j), .int (27)]) (rest := []) S (c_X1_replace l g (AD (3 + 3 * k)) (AD (4 + 3 * k)) (AD (5 + 3 * k)) ((LL k).1) ((LL k).2.1) ((LL k).2.2) (hLL _ (by omega)) j hj 27) (cwV 2 hts gX2_forge_X1_replace rfl rfl rfl (by decide +kernel) ⟨Nat.le_of_ble_eq_true rfl, Nat.le_of_ble_eq_true rfl⟩) hK (va_recv hK.1 hL1 (ci := 1) (q0 := 0) rfl rfl) (hL1) ((dk_letterD hD (i := k) (by omega)).weaken (fun _ _ _ _ => trivial)) hS (wA_of (dk_letterD hD (i := k) (by omega))) rfl hl.1 rfl (Nat.le_of_ble_eq_true rfl) dX2_forge_32 ⟨Nat.le_of_ble_eq_true rfl, Nat.le_of_ble_eq_true rfl⟩ (fun H locs hP1 hz1 hk1 hS => ?_)
    have hL0 := hP1
    have hP : va_P (gD g) vwCl (wsD g AD (fup LL k ((upd (LL k).1 j 27, (LL k).2.1, (LL k).2.2) : ltT)) EE lc ec) H := dk_upL hP hD (i := k) (u := ((upd (LL k).1 j 27, (LL k).2.1, (LL k).2.2) : ltT)) (by omega) hP1 (fun _ h9 => ltX_wA h9) hk1
    have hD : va_D A (wsD g AD (fup LL k ((upd (LL k).1 j 27, (LL k).2.1, (LL k).2.2) : ltT)) EE lc ec) := dk_Dsame hD
    exact hret _ _ _ _ hP hS dX2_forge_35
  · exact absurd c15 hz

set_option maxHeartbeats 4000000 in
set_option maxRecDepth 100000 in
/-- forge_x -/
theorem c_X2_forge_x (l : Launch) (hlt : l.stackTraces = false) (g : gT) (AD : Nat → Nat) (LL : Nat → ltT) (EE : Nat → evT) (LN : Nat → Nat) (lc ec : Nat) (hlc : lc ≤ 12) (hec : ec ≤ 24) (hLL : ∀ i, i < 12 → (LL i).2.2 ≤ 40) (hEE : ∀ q, q < ec → (EE q).1 = nI (LN q) ∧ LN q < lc ∧ (EE q).2.2.1 ≤ 40 ∧ (EE q).2.2.2.1 ≤ 8) (x : Int32) (hxb : inB x lc = false) (y : Int32) : xM g l yX2_forge wsX2_forge { frames := 8, cells := 1, slots := 6, locals := 126 } [.ref (AD 0), .int (x), .int (y)] (fun H => va_P (gD g) vwCl (wsD g AD LL EE lc ec) H) "java/lang/IndexOutOfBoundsException" := by
  refine xr_of (cc := cX2_forge) (maxL := 4) (ret := (some .int)) (by decide) rfl (Nat.le_of_ble_eq_true rfl) ?_
  intro p e s m args below meth c ls hx hb hml hts hown hK hP hZ hlocks ht hl
  have hl : lv_has ls 4 [(0, .ref (AD 0)), (1, .int (x)), (2, .int (y))] := hl
  have S : CallFix p m c cX2_forge 4 s args wsX2_forge RX2 := ⟨hx, hb, hml, hown, hts⟩
  refine lv_aload_n hx hb dX2_forge_0 rfl (lv_at hl 0 rfl) ?_
  refine lv_iload_n hx hb dX2_forge_1 rfl (lv_at hl 1 rfl) ?_
  refine lv_iload_n hx hb dX2_forge_2 rfl (lv_at hl 2 rfl) ?_
  exact x_V (As := [.int (x), .int (y)]) (rest := []) S (c_X2_requireLetterWithPlace_x l hlt g AD LL EE LN lc ec hlc hec hLL hEE x hxb y) (cwV 2 hts gX2_forge_X2_requireLetterWithPlace rfl rfl rfl (by decide +kernel) ⟨Nat.le_of_ble_eq_true rfl, Nat.le_of_ble_eq_true rfl⟩) hK hZ (va_recv hK.1 hP (ci := 2) (q0 := 0) rfl dk_me) (hP) rfl hl.1 rfl (Nat.le_of_ble_eq_true rfl) dX2_forge_3 ⟨Nat.le_of_ble_eq_true rfl, Nat.le_of_ble_eq_true rfl⟩ ht hlocks

set_option maxHeartbeats 4000000 in
set_option maxRecDepth 100000 in
/-- forge_y -/
theorem c_X2_forge_y (l : Launch) (hlt : l.stackTraces = false) (g : gT) (AD : Nat → Nat) (LL : Nat → ltT) (EE : Nat → evT) (LN : Nat → Nat) (lc ec : Nat) (hlc : lc ≤ 12) (hec : ec ≤ 24) (hLL : ∀ i, i < 12 → (LL i).2.2 ≤ 40) (hEE : ∀ q, q < ec → (EE q).1 = nI (LN q) ∧ LN q < lc ∧ (EE q).2.2.1 ≤ 40 ∧ (EE q).2.2.2.1 ≤ 8) (k : Nat) (hk : k < lc) (y : Int32) (hy : inB y (LL k).2.2 = false) : xM g l yX2_forge wsX2_forge { frames := 8, cells := 1, slots := 6, locals := 126 } [.ref (AD 0), .int (nI k), .int (y)] (fun H => va_P (gD g) vwCl (wsD g AD LL EE lc ec) H) "java/lang/IndexOutOfBoundsException" := by
  refine xr_of (cc := cX2_forge) (maxL := 4) (ret := (some .int)) (by decide) rfl (Nat.le_of_ble_eq_true rfl) ?_
  intro p e s m args below meth c ls hx hb hml hts hown hK hP hZ hlocks ht hl
  have hl : lv_has ls 4 [(0, .ref (AD 0)), (1, .int (nI k)), (2, .int (y))] := hl
  have S : CallFix p m c cX2_forge 4 s args wsX2_forge RX2 := ⟨hx, hb, hml, hown, hts⟩
  refine lv_aload_n hx hb dX2_forge_0 rfl (lv_at hl 0 rfl) ?_
  refine lv_iload_n hx hb dX2_forge_1 rfl (lv_at hl 1 rfl) ?_
  refine lv_iload_n hx hb dX2_forge_2 rfl (lv_at hl 2 rfl) ?_
  exact x_V (As := [.int (nI k), .int (y)]) (rest := []) S (c_X2_requireLetterWithPlace_y l hlt g AD LL EE LN lc ec hlc hec hLL hEE k hk y hy) (cwV 2 hts gX2_forge_X2_requireLetterWithPlace rfl rfl rfl (by decide +kernel) ⟨Nat.le_of_ble_eq_true rfl, Nat.le_of_ble_eq_true rfl⟩) hK hZ (va_recv hK.1 hP (ci := 2) (q0 := 0) rfl dk_me) (hP) rfl hl.1 rfl (Nat.le_of_ble_eq_true rfl) dX2_forge_3 ⟨Nat.le_of_ble_eq_true rfl, Nat.le_of_ble_eq_true rfl⟩ ht hlocks

set_option maxHeartbeats 4000000 in
set_option maxRecDepth 100000 in
/-- forge_s -/
theorem c_X2_forge_s (l : Launch) (hlt : l.stackTraces = false) (g : gT) (AD : Nat → Nat) (LL : Nat → ltT) (EE : Nat → evT) (LN : Nat → Nat) (lc ec : Nat) (hlc : lc ≤ 12) (hec : ec ≤ 24) (hLL : ∀ i, i < 12 → (LL i).2.2 ≤ 40) (hEE : ∀ q, q < ec → (EE q).1 = nI (LN q) ∧ LN q < lc ∧ (EE q).2.2.1 ≤ 40 ∧ (EE q).2.2.2.1 ≤ 8) (k : Nat) (hk : k < lc) (j : Nat) (hj : j < (LL k).2.2) (hz : (LL k).1 j = 27) : xM g l yX2_forge wsX2_forge { frames := 8, cells := 1, slots := 6, locals := 126 } [.ref (AD 0), .int (nI k), .int (nI j)] (fun H => va_P (gD g) vwCl (wsD g AD LL EE lc ec) H) "java/lang/IllegalStateException" := by
  refine xr_of (cc := cX2_forge) (maxL := 4) (ret := (some .int)) (by decide) rfl (Nat.le_of_ble_eq_true rfl) ?_
  intro p e s m args below meth c ls hx hb hml hts hown hK hP hZ hlocks ht hl
  have hl : lv_has ls 4 [(0, .ref (AD 0)), (1, .int (nI k)), (2, .int (nI j))] := hl
  have S : CallFix p m c cX2_forge 4 s args wsX2_forge RX2 := ⟨hx, hb, hml, hown, hts⟩
  have hk40 := hLL k (by omega)
  have iX1 : ∀ w ∈ u_ws RX1 TX1 3, w ∈ wsX2_forge := by decide +kernel
  have n66 : (Cond.fieldLinkNest RX2 66 "LetterSeals$Letter" "signs" "[I" "LetterSeals").before args s = true := va_Nw.use rfl (hK.2.1 ("LetterSeals", 66, "LetterSeals$Letter", "signs", "[I") (List.mem_of_getElem? (i := 0) rfl))
  refine lv_aload_n hx hb dX2_forge_0 rfl (lv_at hl 0 rfl) ?_
  refine lv_iload_n hx hb dX2_forge_1 rfl (lv_at hl 1 rfl) ?_
  refine lv_iload_n hx hb dX2_forge_2 rfl (lv_at hl 2 rfl) ?_
  refine p_V (As := [.int (nI k), .int (nI j)]) (rest := []) S (c_X2_requireLetterWithPlace l g AD LL EE LN lc ec hlc hec hLL hEE k hk j hj) (cwV 2 hts gX2_forge_X2_requireLetterWithPlace rfl rfl rfl (by decide +kernel) ⟨Nat.le_of_ble_eq_true rfl, Nat.le_of_ble_eq_true rfl⟩) hK (va_recv hK.1 hP (ci := 2) (q0 := 0) rfl dk_me) (hP) rfl hl.1 rfl (Nat.le_of_ble_eq_true rfl) dX2_forge_3 ⟨Nat.le_of_ble_eq_true rfl, Nat.le_of_ble_eq_true rfl⟩ ?_
  refine lv_astore_n (lv' := [(3, .ref (AD (3 + 3 * k))), (0, .ref (AD 0)), (1, .int (nI k)), (2, .int (nI j))]) hx hb dX2_forge_6 rfl hl (by decide) rfl (fun ls hl => ?_)
  refine lv_aload_n hx hb dX2_forge_7 rfl (lv_at hl 0 rfl) ?_
  have hL1 := dk_letter hP (i := k) (by omega)
  refine va_getN (D := gD g) (ci := 1) (v := .ref (AD (4 + 3 * k))) (C := RX1) (T := TX1) (N := 3) hx hb hts iX1 hown hK.1 hL1 0 rfl rfl 0 (by decide) n66 (fun _ h9 => h9) rfl dX2_forge_8 ?_
  refine lv_iload_n hx hb dX2_forge_11 rfl (lv_at hl 3 rfl) ?_
  refine ld_I (k := j) (n := 40) (f := (LL k).1) hx hb hK.1 hL1 1 rfl (by omega) (by omega) dX2_forge_12 ?_
  refine lv_bipush (v := 27) hx hb dX2_forge_13 (by decide +kernel) ?_
  refine lv_icmp_ne (tgt := 28) hx hb dX2_forge_15 (by decide) (fun c15 => ?_) (fun c15 => ?_)
  · exact absurd hz c15
  · exact x_throw (E := "java/lang/IllegalStateException") (text := "a comma is there") (ik := 45) (is := 70) (ic := 49) hx hb hlt hown hts (by decide +kernel) (by decide +kernel) (by decide +kernel) (by decide +kernel) (by decide +kernel) (by decide +kernel) hK (List.mem_of_getElem? (i := 2) rfl) (List.mem_of_getElem? (i := 6) rfl) hZ (hl.1.trans hml.symm) dX2_forge_18 dX2_forge_21 dX2_forge_22 dX2_forge_24 dX2_forge_27 ht (Nat.le_of_ble_eq_true rfl) (Nat.le_of_ble_eq_true rfl) (Nat.le_of_ble_eq_true rfl) (Nat.le_of_ble_eq_true rfl) hlocks

set_option maxHeartbeats 4000000 in
set_option maxRecDepth 100000 in
/-- tear -/
theorem c_X2_tear (l : Launch) (g : gT) (AD : Nat → Nat) (LL : Nat → ltT) (EE : Nat → evT) (LN : Nat → Nat) (lc ec : Nat) (hlc : lc ≤ 12) (hec : ec ≤ 24) (hLL : ∀ i, i < 12 → (LL i).2.2 ≤ 40) (hEE : ∀ q, q < ec → (EE q).1 = nI (LN q) ∧ LN q < lc ∧ (EE q).2.2.1 ≤ 40 ∧ (EE q).2.2.2.1 ≤ 8) (k : Nat) (hk : k < lc) (j : Nat) (hj : j < (LL k).2.2) (hz : ¬ (LL k).1 j = 30) : wM g l yX2_tear wsX2_tear { frames := 8, cells := 0, slots := 0, locals := 126 } [.ref (AD 0), .int (nI k), .int (nI j)] (wsD g AD LL EE lc ec) (some (.int ((LL k).1 j))) (wsD g AD (fup LL k ((upd (LL k).1 j 30, (LL k).2.1, (LL k).2.2) : ltT)) EE lc ec) := by
  refine wr_ofI (cc := cX2_tear) (maxL := 4) (by decide) rfl (Nat.le_of_ble_eq_true rfl) ?_
  intro p e s m args below meth c H0 ls A Q hx hb hml hts hown hK hP hD hS hl hret
  have hl : lv_has ls 4 [(0, .ref (AD 0)), (1, .int (nI k)), (2, .int (nI j))] := hl
  have S : CallFix p m c cX2_tear 4 s args wsX2_tear RX2 := ⟨hx, hb, hml, hown, hts⟩
  have hk40 := hLL k (by omega)
  have iX1 : ∀ w ∈ u_ws RX1 TX1 3, w ∈ wsX2_tear := by decide +kernel
  have n66 : (Cond.fieldLinkNest RX2 66 "LetterSeals$Letter" "signs" "[I" "LetterSeals").before args s = true := va_Nw.use rfl (hK.2.1 ("LetterSeals", 66, "LetterSeals$Letter", "signs", "[I") (List.mem_of_getElem? (i := 0) rfl))
  obtain ⟨H, eH⟩ : ∃ H : Heap, H = H0 := ⟨_, rfl⟩
  rw [← eH] at hP ⊢
  have hS : va_S A H0 H [] := by rw [eH]; exact hS
  refine lv_aload_n hx hb dX2_tear_0 rfl (lv_at hl 0 rfl) ?_
  refine lv_iload_n hx hb dX2_tear_1 rfl (lv_at hl 1 rfl) ?_
  refine lv_iload_n hx hb dX2_tear_2 rfl (lv_at hl 2 rfl) ?_
  refine p_V (As := [.int (nI k), .int (nI j)]) (rest := []) S (c_X2_requireLetterWithPlace l g AD LL EE LN lc ec hlc hec hLL hEE k hk j hj) (cwV 2 hts gX2_tear_X2_requireLetterWithPlace rfl rfl rfl (by decide +kernel) ⟨Nat.le_of_ble_eq_true rfl, Nat.le_of_ble_eq_true rfl⟩) hK (va_recv hK.1 hP (ci := 2) (q0 := 0) rfl dk_me) (hP) rfl hl.1 rfl (Nat.le_of_ble_eq_true rfl) dX2_tear_3 ⟨Nat.le_of_ble_eq_true rfl, Nat.le_of_ble_eq_true rfl⟩ ?_
  refine lv_astore_n (lv' := [(3, .ref (AD (3 + 3 * k))), (0, .ref (AD 0)), (1, .int (nI k)), (2, .int (nI j))]) hx hb dX2_tear_6 rfl hl (by decide) rfl (fun ls hl => ?_)
  refine lv_aload_n hx hb dX2_tear_7 rfl (lv_at hl 0 rfl) ?_
  have hL1 := dk_letter hP (i := k) (by omega)
  refine va_getN (D := gD g) (ci := 1) (v := .ref (AD (4 + 3 * k))) (C := RX1) (T := TX1) (N := 3) hx hb hts iX1 hown hK.1 hL1 0 rfl rfl 0 (by decide) n66 (fun _ h9 => h9) rfl dX2_tear_8 ?_
  refine lv_iload_n hx hb dX2_tear_11 rfl (lv_at hl 3 rfl) ?_
  refine ld_I (k := j) (n := 40) (f := (LL k).1) hx hb hK.1 hL1 1 rfl (by omega) (by omega) dX2_tear_12 ?_
  refine lv_bipush (v := 30) hx hb dX2_tear_13 (by decide +kernel) ?_
  refine lv_icmp_ne (tgt := 28) hx hb dX2_tear_15 (by decide) (fun c15 => ?_) (fun c15 => ?_)
  · refine lv_aload_n hx hb dX2_tear_28 rfl (lv_at hl 0 rfl) ?_
    refine lv_iload_n hx hb dX2_tear_29 rfl (lv_at hl 3 rfl) ?_
    refine lv_bipush (v := 30) hx hb dX2_tear_30 (by decide +kernel) ?_
    refine w_V (As := [.int (nI j), .int (30)]) (rest := []) S (c_X1_replace l g (AD (3 + 3 * k)) (AD (4 + 3 * k)) (AD (5 + 3 * k)) ((LL k).1) ((LL k).2.1) ((LL k).2.2) (hLL _ (by omega)) j hj 30) (cwV 2 hts gX2_tear_X1_replace rfl rfl rfl (by decide +kernel) ⟨Nat.le_of_ble_eq_true rfl, Nat.le_of_ble_eq_true rfl⟩) hK (va_recv hK.1 hL1 (ci := 1) (q0 := 0) rfl rfl) (hL1) ((dk_letterD hD (i := k) (by omega)).weaken (fun _ _ _ _ => trivial)) hS (wA_of (dk_letterD hD (i := k) (by omega))) rfl hl.1 rfl (Nat.le_of_ble_eq_true rfl) dX2_tear_32 ⟨Nat.le_of_ble_eq_true rfl, Nat.le_of_ble_eq_true rfl⟩ (fun H locs hP1 hz1 hk1 hS => ?_)
    have hL0 := hP1
    have hP : va_P (gD g) vwCl (wsD g AD (fup LL k ((upd (LL k).1 j 30, (LL k).2.1, (LL k).2.2) : ltT)) EE lc ec) H := dk_upL hP hD (i := k) (u := ((upd (LL k).1 j 30, (LL k).2.1, (LL k).2.2) : ltT)) (by omega) hP1 (fun _ h9 => ltX_wA h9) hk1
    have hD : va_D A (wsD g AD (fup LL k ((upd (LL k).1 j 30, (LL k).2.1, (LL k).2.2) : ltT)) EE lc ec) := dk_Dsame hD
    exact hret _ _ _ _ hP hS dX2_tear_35
  · exact absurd c15 hz

set_option maxHeartbeats 4000000 in
set_option maxRecDepth 100000 in
/-- tear_x -/
theorem c_X2_tear_x (l : Launch) (hlt : l.stackTraces = false) (g : gT) (AD : Nat → Nat) (LL : Nat → ltT) (EE : Nat → evT) (LN : Nat → Nat) (lc ec : Nat) (hlc : lc ≤ 12) (hec : ec ≤ 24) (hLL : ∀ i, i < 12 → (LL i).2.2 ≤ 40) (hEE : ∀ q, q < ec → (EE q).1 = nI (LN q) ∧ LN q < lc ∧ (EE q).2.2.1 ≤ 40 ∧ (EE q).2.2.2.1 ≤ 8) (x : Int32) (hxb : inB x lc = false) (y : Int32) : xM g l yX2_tear wsX2_tear { frames := 8, cells := 1, slots := 6, locals := 126 } [.ref (AD 0), .int (x), .int (y)] (fun H => va_P (gD g) vwCl (wsD g AD LL EE lc ec) H) "java/lang/IndexOutOfBoundsException" := by
  refine xr_of (cc := cX2_tear) (maxL := 4) (ret := (some .int)) (by decide) rfl (Nat.le_of_ble_eq_true rfl) ?_
  intro p e s m args below meth c ls hx hb hml hts hown hK hP hZ hlocks ht hl
  have hl : lv_has ls 4 [(0, .ref (AD 0)), (1, .int (x)), (2, .int (y))] := hl
  have S : CallFix p m c cX2_tear 4 s args wsX2_tear RX2 := ⟨hx, hb, hml, hown, hts⟩
  refine lv_aload_n hx hb dX2_tear_0 rfl (lv_at hl 0 rfl) ?_
  refine lv_iload_n hx hb dX2_tear_1 rfl (lv_at hl 1 rfl) ?_
  refine lv_iload_n hx hb dX2_tear_2 rfl (lv_at hl 2 rfl) ?_
  exact x_V (As := [.int (x), .int (y)]) (rest := []) S (c_X2_requireLetterWithPlace_x l hlt g AD LL EE LN lc ec hlc hec hLL hEE x hxb y) (cwV 2 hts gX2_tear_X2_requireLetterWithPlace rfl rfl rfl (by decide +kernel) ⟨Nat.le_of_ble_eq_true rfl, Nat.le_of_ble_eq_true rfl⟩) hK hZ (va_recv hK.1 hP (ci := 2) (q0 := 0) rfl dk_me) (hP) rfl hl.1 rfl (Nat.le_of_ble_eq_true rfl) dX2_tear_3 ⟨Nat.le_of_ble_eq_true rfl, Nat.le_of_ble_eq_true rfl⟩ ht hlocks

set_option maxHeartbeats 4000000 in
set_option maxRecDepth 100000 in
/-- tear_y -/
theorem c_X2_tear_y (l : Launch) (hlt : l.stackTraces = false) (g : gT) (AD : Nat → Nat) (LL : Nat → ltT) (EE : Nat → evT) (LN : Nat → Nat) (lc ec : Nat) (hlc : lc ≤ 12) (hec : ec ≤ 24) (hLL : ∀ i, i < 12 → (LL i).2.2 ≤ 40) (hEE : ∀ q, q < ec → (EE q).1 = nI (LN q) ∧ LN q < lc ∧ (EE q).2.2.1 ≤ 40 ∧ (EE q).2.2.2.1 ≤ 8) (k : Nat) (hk : k < lc) (y : Int32) (hy : inB y (LL k).2.2 = false) : xM g l yX2_tear wsX2_tear { frames := 8, cells := 1, slots := 6, locals := 126 } [.ref (AD 0), .int (nI k), .int (y)] (fun H => va_P (gD g) vwCl (wsD g AD LL EE lc ec) H) "java/lang/IndexOutOfBoundsException" := by
  refine xr_of (cc := cX2_tear) (maxL := 4) (ret := (some .int)) (by decide) rfl (Nat.le_of_ble_eq_true rfl) ?_
  intro p e s m args below meth c ls hx hb hml hts hown hK hP hZ hlocks ht hl
  have hl : lv_has ls 4 [(0, .ref (AD 0)), (1, .int (nI k)), (2, .int (y))] := hl
  have S : CallFix p m c cX2_tear 4 s args wsX2_tear RX2 := ⟨hx, hb, hml, hown, hts⟩
  refine lv_aload_n hx hb dX2_tear_0 rfl (lv_at hl 0 rfl) ?_
  refine lv_iload_n hx hb dX2_tear_1 rfl (lv_at hl 1 rfl) ?_
  refine lv_iload_n hx hb dX2_tear_2 rfl (lv_at hl 2 rfl) ?_
  exact x_V (As := [.int (nI k), .int (y)]) (rest := []) S (c_X2_requireLetterWithPlace_y l hlt g AD LL EE LN lc ec hlc hec hLL hEE k hk y hy) (cwV 2 hts gX2_tear_X2_requireLetterWithPlace rfl rfl rfl (by decide +kernel) ⟨Nat.le_of_ble_eq_true rfl, Nat.le_of_ble_eq_true rfl⟩) hK hZ (va_recv hK.1 hP (ci := 2) (q0 := 0) rfl dk_me) (hP) rfl hl.1 rfl (Nat.le_of_ble_eq_true rfl) dX2_tear_3 ⟨Nat.le_of_ble_eq_true rfl, Nat.le_of_ble_eq_true rfl⟩ ht hlocks

set_option maxHeartbeats 4000000 in
set_option maxRecDepth 100000 in
/-- tear_s -/
theorem c_X2_tear_s (l : Launch) (hlt : l.stackTraces = false) (g : gT) (AD : Nat → Nat) (LL : Nat → ltT) (EE : Nat → evT) (LN : Nat → Nat) (lc ec : Nat) (hlc : lc ≤ 12) (hec : ec ≤ 24) (hLL : ∀ i, i < 12 → (LL i).2.2 ≤ 40) (hEE : ∀ q, q < ec → (EE q).1 = nI (LN q) ∧ LN q < lc ∧ (EE q).2.2.1 ≤ 40 ∧ (EE q).2.2.2.1 ≤ 8) (k : Nat) (hk : k < lc) (j : Nat) (hj : j < (LL k).2.2) (hz : (LL k).1 j = 30) : xM g l yX2_tear wsX2_tear { frames := 8, cells := 1, slots := 6, locals := 126 } [.ref (AD 0), .int (nI k), .int (nI j)] (fun H => va_P (gD g) vwCl (wsD g AD LL EE lc ec) H) "java/lang/IllegalStateException" := by
  refine xr_of (cc := cX2_tear) (maxL := 4) (ret := (some .int)) (by decide) rfl (Nat.le_of_ble_eq_true rfl) ?_
  intro p e s m args below meth c ls hx hb hml hts hown hK hP hZ hlocks ht hl
  have hl : lv_has ls 4 [(0, .ref (AD 0)), (1, .int (nI k)), (2, .int (nI j))] := hl
  have S : CallFix p m c cX2_tear 4 s args wsX2_tear RX2 := ⟨hx, hb, hml, hown, hts⟩
  have hk40 := hLL k (by omega)
  have iX1 : ∀ w ∈ u_ws RX1 TX1 3, w ∈ wsX2_tear := by decide +kernel
  have n66 : (Cond.fieldLinkNest RX2 66 "LetterSeals$Letter" "signs" "[I" "LetterSeals").before args s = true := va_Nw.use rfl (hK.2.1 ("LetterSeals", 66, "LetterSeals$Letter", "signs", "[I") (List.mem_of_getElem? (i := 0) rfl))
  refine lv_aload_n hx hb dX2_tear_0 rfl (lv_at hl 0 rfl) ?_
  refine lv_iload_n hx hb dX2_tear_1 rfl (lv_at hl 1 rfl) ?_
  refine lv_iload_n hx hb dX2_tear_2 rfl (lv_at hl 2 rfl) ?_
  refine p_V (As := [.int (nI k), .int (nI j)]) (rest := []) S (c_X2_requireLetterWithPlace l g AD LL EE LN lc ec hlc hec hLL hEE k hk j hj) (cwV 2 hts gX2_tear_X2_requireLetterWithPlace rfl rfl rfl (by decide +kernel) ⟨Nat.le_of_ble_eq_true rfl, Nat.le_of_ble_eq_true rfl⟩) hK (va_recv hK.1 hP (ci := 2) (q0 := 0) rfl dk_me) (hP) rfl hl.1 rfl (Nat.le_of_ble_eq_true rfl) dX2_tear_3 ⟨Nat.le_of_ble_eq_true rfl, Nat.le_of_ble_eq_true rfl⟩ ?_
  refine lv_astore_n (lv' := [(3, .ref (AD (3 + 3 * k))), (0, .ref (AD 0)), (1, .int (nI k)), (2, .int (nI j))]) hx hb dX2_tear_6 rfl hl (by decide) rfl (fun ls hl => ?_)
  refine lv_aload_n hx hb dX2_tear_7 rfl (lv_at hl 0 rfl) ?_
  have hL1 := dk_letter hP (i := k) (by omega)
  refine va_getN (D := gD g) (ci := 1) (v := .ref (AD (4 + 3 * k))) (C := RX1) (T := TX1) (N := 3) hx hb hts iX1 hown hK.1 hL1 0 rfl rfl 0 (by decide) n66 (fun _ h9 => h9) rfl dX2_tear_8 ?_
  refine lv_iload_n hx hb dX2_tear_11 rfl (lv_at hl 3 rfl) ?_
  refine ld_I (k := j) (n := 40) (f := (LL k).1) hx hb hK.1 hL1 1 rfl (by omega) (by omega) dX2_tear_12 ?_
  refine lv_bipush (v := 30) hx hb dX2_tear_13 (by decide +kernel) ?_
  refine lv_icmp_ne (tgt := 28) hx hb dX2_tear_15 (by decide) (fun c15 => ?_) (fun c15 => ?_)
  · exact absurd hz c15
  · exact x_throw (E := "java/lang/IllegalStateException") (text := "the sign is blurred") (ik := 45) (is := 76) (ic := 49) hx hb hlt hown hts (by decide +kernel) (by decide +kernel) (by decide +kernel) (by decide +kernel) (by decide +kernel) (by decide +kernel) hK (List.mem_of_getElem? (i := 2) rfl) (List.mem_of_getElem? (i := 7) rfl) hZ (hl.1.trans hml.symm) dX2_tear_18 dX2_tear_21 dX2_tear_22 dX2_tear_24 dX2_tear_27 ht (Nat.le_of_ble_eq_true rfl) (Nat.le_of_ble_eq_true rfl) (Nat.le_of_ble_eq_true rfl) (Nat.le_of_ble_eq_true rfl) hlocks

set_option maxHeartbeats 4000000 in
set_option maxRecDepth 100000 in
/-- mend -/
theorem c_X2_mend (l : Launch) (g : gT) (AD : Nat → Nat) (LL : Nat → ltT) (EE : Nat → evT) (LN : Nat → Nat) (lc ec : Nat) (hlc : lc ≤ 12) (hec : ec ≤ 24) (hLL : ∀ i, i < 12 → (LL i).2.2 ≤ 40) (hEE : ∀ q, q < ec → (EE q).1 = nI (LN q) ∧ LN q < lc ∧ (EE q).2.2.1 ≤ 40 ∧ (EE q).2.2.2.1 ≤ 8) (k : Nat) (hk : k < lc) (j : Nat) (hj : j < (LL k).2.2) (x : Int32) (hs : (decide (0 ≤ x) && decide (x ≤ 29)) = true) (hz : (LL k).1 j = 30) : wM g l yX2_mend wsX2_mend { frames := 8, cells := 0, slots := 0, locals := 126 } [.ref (AD 0), .int (nI k), .int (nI j), .int (x)] (wsD g AD LL EE lc ec) (some (.int (cntF (upd (LL k).1 j x) 30 (LL k).2.2))) (wsD g AD (fup LL k ((upd (LL k).1 j x, (LL k).2.1, (LL k).2.2) : ltT)) EE lc ec) := by
  refine wr_ofI (cc := cX2_mend) (maxL := 5) (by decide) rfl (Nat.le_of_ble_eq_true rfl) ?_
  intro p e s m args below meth c H0 ls A Q hx hb hml hts hown hK hP hD hS hl hret
  have hl : lv_has ls 5 [(0, .ref (AD 0)), (1, .int (nI k)), (2, .int (nI j)), (3, .int (x))] := hl
  have S : CallFix p m c cX2_mend 5 s args wsX2_mend RX2 := ⟨hx, hb, hml, hown, hts⟩
  have hk40 := hLL k (by omega)
  have iX1 : ∀ w ∈ u_ws RX1 TX1 3, w ∈ wsX2_mend := by decide +kernel
  have n66 : (Cond.fieldLinkNest RX2 66 "LetterSeals$Letter" "signs" "[I" "LetterSeals").before args s = true := va_Nw.use rfl (hK.2.1 ("LetterSeals", 66, "LetterSeals$Letter", "signs", "[I") (List.mem_of_getElem? (i := 0) rfl))
  obtain ⟨H, eH⟩ : ∃ H : Heap, H = H0 := ⟨_, rfl⟩
  rw [← eH] at hP ⊢
  have hS : va_S A H0 H [] := by rw [eH]; exact hS
  refine lv_aload_n hx hb dX2_mend_0 rfl (lv_at hl 0 rfl) ?_
  refine lv_iload_n hx hb dX2_mend_1 rfl (lv_at hl 1 rfl) ?_
  refine lv_iload_n hx hb dX2_mend_2 rfl (lv_at hl 2 rfl) ?_
  refine p_V (As := [.int (nI k), .int (nI j)]) (rest := []) S (c_X2_requireLetterWithPlace l g AD LL EE LN lc ec hlc hec hLL hEE k hk j hj) (cwV 2 hts gX2_mend_X2_requireLetterWithPlace rfl rfl rfl (by decide +kernel) ⟨Nat.le_of_ble_eq_true rfl, Nat.le_of_ble_eq_true rfl⟩) hK (va_recv hK.1 hP (ci := 2) (q0 := 0) rfl dk_me) (hP) rfl hl.1 rfl (Nat.le_of_ble_eq_true rfl) dX2_mend_3 ⟨Nat.le_of_ble_eq_true rfl, Nat.le_of_ble_eq_true rfl⟩ ?_
  refine lv_astore (lv' := [(4, .ref (AD (3 + 3 * k))), (0, .ref (AD 0)), (1, .int (nI k)), (2, .int (nI j)), (3, .int (x))]) hx hb dX2_mend_6 hl (by decide) rfl (fun ls hl => ?_)
  refine lv_iload_n hx hb dX2_mend_8 rfl (lv_at hl 4 rfl) ?_
  refine p_Sv (As := [.int (x)]) (rest := []) S (c_X2_requireWrittenSign l g x hs) (va_cwS 1 hts gX2_mend_X2_requireWrittenSign rfl rfl rfl (by decide +kernel) ⟨Nat.le_of_ble_eq_true rfl, Nat.le_of_ble_eq_true rfl⟩) hK  (trivial) rfl hl.1 rfl (Nat.le_of_ble_eq_true rfl) dX2_mend_9 ⟨Nat.le_of_ble_eq_true rfl, Nat.le_of_ble_eq_true rfl⟩ ?_
  refine lv_aload hx hb dX2_mend_12 (lv_at hl 0 rfl) ?_
  have hL1 := dk_letter hP (i := k) (by omega)
  refine va_getN (D := gD g) (ci := 1) (v := .ref (AD (4 + 3 * k))) (C := RX1) (T := TX1) (N := 3) hx hb hts iX1 hown hK.1 hL1 0 rfl rfl 0 (by decide) n66 (fun _ h9 => h9) rfl dX2_mend_14 ?_
  refine lv_iload_n hx hb dX2_mend_17 rfl (lv_at hl 3 rfl) ?_
  refine ld_I (k := j) (n := 40) (f := (LL k).1) hx hb hK.1 hL1 1 rfl (by omega) (by omega) dX2_mend_18 ?_
  refine lv_bipush (v := 30) hx hb dX2_mend_19 (by decide +kernel) ?_
  refine lv_icmp_eq (tgt := 34) hx hb dX2_mend_21 (by decide) (fun c21 => ?_) (fun c21 => ?_)
  · refine lv_aload hx hb dX2_mend_34 (lv_at hl 0 rfl) ?_
    refine lv_iload_n hx hb dX2_mend_36 rfl (lv_at hl 3 rfl) ?_
    refine lv_iload_n hx hb dX2_mend_37 rfl (lv_at hl 4 rfl) ?_
    refine w_V (As := [.int (nI j), .int (x)]) (rest := []) S (c_X1_replace l g (AD (3 + 3 * k)) (AD (4 + 3 * k)) (AD (5 + 3 * k)) ((LL k).1) ((LL k).2.1) ((LL k).2.2) (hLL _ (by omega)) j hj x) (cwV 2 hts gX2_mend_X1_replace rfl rfl rfl (by decide +kernel) ⟨Nat.le_of_ble_eq_true rfl, Nat.le_of_ble_eq_true rfl⟩) hK (va_recv hK.1 hL1 (ci := 1) (q0 := 0) rfl rfl) (hL1) ((dk_letterD hD (i := k) (by omega)).weaken (fun _ _ _ _ => trivial)) hS (wA_of (dk_letterD hD (i := k) (by omega))) rfl hl.1 rfl (Nat.le_of_ble_eq_true rfl) dX2_mend_38 ⟨Nat.le_of_ble_eq_true rfl, Nat.le_of_ble_eq_true rfl⟩ (fun H locs hP1 hz1 hk1 hS => ?_)
    have hL0 := hP1
    have hP : va_P (gD g) vwCl (wsD g AD (fup LL k ((upd (LL k).1 j x, (LL k).2.1, (LL k).2.2) : ltT)) EE lc ec) H := dk_upL hP hD (i := k) (u := ((upd (LL k).1 j x, (LL k).2.1, (LL k).2.2) : ltT)) (by omega) hP1 (fun _ h9 => ltX_wA h9) hk1
    have hD : va_D A (wsD g AD (fup LL k ((upd (LL k).1 j x, (LL k).2.1, (LL k).2.2) : ltT)) EE lc ec) := dk_Dsame hD
    refine lv_pop hx hb dX2_mend_41 rfl ?_
    refine lv_aload hx hb dX2_mend_42 (lv_at hl 0 rfl) ?_
    refine lv_bipush (v := 30) hx hb dX2_mend_44 (by decide +kernel) ?_
    refine p_V (As := [.int (30)]) (rest := []) S (c_X1_countOf l g (AD (3 + 3 * k)) (AD (4 + 3 * k)) (AD (5 + 3 * k)) (upd (LL k).1 j x) ((LL k).2.1) ((LL k).2.2) hk40 (30)) (cwV 1 hts gX2_mend_X1_countOf rfl rfl rfl (by decide +kernel) ⟨Nat.le_of_ble_eq_true rfl, Nat.le_of_ble_eq_true rfl⟩) hK (va_recv hK.1 hL0 (ci := 1) (q0 := 0) rfl rfl) (hL0) rfl hl.1 rfl (Nat.le_of_ble_eq_true rfl) dX2_mend_46 ⟨Nat.le_of_ble_eq_true rfl, Nat.le_of_ble_eq_true rfl⟩ ?_
    exact hret _ _ _ _ hP hS dX2_mend_49
  · exact absurd hz c21

set_option maxHeartbeats 4000000 in
set_option maxRecDepth 100000 in
/-- mend_x -/
theorem c_X2_mend_x (l : Launch) (hlt : l.stackTraces = false) (g : gT) (AD : Nat → Nat) (LL : Nat → ltT) (EE : Nat → evT) (LN : Nat → Nat) (lc ec : Nat) (hlc : lc ≤ 12) (hec : ec ≤ 24) (hLL : ∀ i, i < 12 → (LL i).2.2 ≤ 40) (hEE : ∀ q, q < ec → (EE q).1 = nI (LN q) ∧ LN q < lc ∧ (EE q).2.2.1 ≤ 40 ∧ (EE q).2.2.2.1 ≤ 8) (x : Int32) (hxb : inB x lc = false) (y z : Int32) : xM g l yX2_mend wsX2_mend { frames := 8, cells := 1, slots := 6, locals := 126 } [.ref (AD 0), .int (x), .int (y), .int (z)] (fun H => va_P (gD g) vwCl (wsD g AD LL EE lc ec) H) "java/lang/IndexOutOfBoundsException" := by
  refine xr_of (cc := cX2_mend) (maxL := 5) (ret := (some .int)) (by decide) rfl (Nat.le_of_ble_eq_true rfl) ?_
  intro p e s m args below meth c ls hx hb hml hts hown hK hP hZ hlocks ht hl
  have hl : lv_has ls 5 [(0, .ref (AD 0)), (1, .int (x)), (2, .int (y)), (3, .int (z))] := hl
  have S : CallFix p m c cX2_mend 5 s args wsX2_mend RX2 := ⟨hx, hb, hml, hown, hts⟩
  refine lv_aload_n hx hb dX2_mend_0 rfl (lv_at hl 0 rfl) ?_
  refine lv_iload_n hx hb dX2_mend_1 rfl (lv_at hl 1 rfl) ?_
  refine lv_iload_n hx hb dX2_mend_2 rfl (lv_at hl 2 rfl) ?_
  exact x_V (As := [.int (x), .int (y)]) (rest := []) S (c_X2_requireLetterWithPlace_x l hlt g AD LL EE LN lc ec hlc hec hLL hEE x hxb y) (cwV 2 hts gX2_mend_X2_requireLetterWithPlace rfl rfl rfl (by decide +kernel) ⟨Nat.le_of_ble_eq_true rfl, Nat.le_of_ble_eq_true rfl⟩) hK hZ (va_recv hK.1 hP (ci := 2) (q0 := 0) rfl dk_me) (hP) rfl hl.1 rfl (Nat.le_of_ble_eq_true rfl) dX2_mend_3 ⟨Nat.le_of_ble_eq_true rfl, Nat.le_of_ble_eq_true rfl⟩ ht hlocks

set_option maxHeartbeats 4000000 in
set_option maxRecDepth 100000 in
/-- mend_y -/
theorem c_X2_mend_y (l : Launch) (hlt : l.stackTraces = false) (g : gT) (AD : Nat → Nat) (LL : Nat → ltT) (EE : Nat → evT) (LN : Nat → Nat) (lc ec : Nat) (hlc : lc ≤ 12) (hec : ec ≤ 24) (hLL : ∀ i, i < 12 → (LL i).2.2 ≤ 40) (hEE : ∀ q, q < ec → (EE q).1 = nI (LN q) ∧ LN q < lc ∧ (EE q).2.2.1 ≤ 40 ∧ (EE q).2.2.2.1 ≤ 8) (k : Nat) (hk : k < lc) (y : Int32) (hy : inB y (LL k).2.2 = false) (z : Int32) : xM g l yX2_mend wsX2_mend { frames := 8, cells := 1, slots := 6, locals := 126 } [.ref (AD 0), .int (nI k), .int (y), .int (z)] (fun H => va_P (gD g) vwCl (wsD g AD LL EE lc ec) H) "java/lang/IndexOutOfBoundsException" := by
  refine xr_of (cc := cX2_mend) (maxL := 5) (ret := (some .int)) (by decide) rfl (Nat.le_of_ble_eq_true rfl) ?_
  intro p e s m args below meth c ls hx hb hml hts hown hK hP hZ hlocks ht hl
  have hl : lv_has ls 5 [(0, .ref (AD 0)), (1, .int (nI k)), (2, .int (y)), (3, .int (z))] := hl
  have S : CallFix p m c cX2_mend 5 s args wsX2_mend RX2 := ⟨hx, hb, hml, hown, hts⟩
  refine lv_aload_n hx hb dX2_mend_0 rfl (lv_at hl 0 rfl) ?_
  refine lv_iload_n hx hb dX2_mend_1 rfl (lv_at hl 1 rfl) ?_
  refine lv_iload_n hx hb dX2_mend_2 rfl (lv_at hl 2 rfl) ?_
  exact x_V (As := [.int (nI k), .int (y)]) (rest := []) S (c_X2_requireLetterWithPlace_y l hlt g AD LL EE LN lc ec hlc hec hLL hEE k hk y hy) (cwV 2 hts gX2_mend_X2_requireLetterWithPlace rfl rfl rfl (by decide +kernel) ⟨Nat.le_of_ble_eq_true rfl, Nat.le_of_ble_eq_true rfl⟩) hK hZ (va_recv hK.1 hP (ci := 2) (q0 := 0) rfl dk_me) (hP) rfl hl.1 rfl (Nat.le_of_ble_eq_true rfl) dX2_mend_3 ⟨Nat.le_of_ble_eq_true rfl, Nat.le_of_ble_eq_true rfl⟩ ht hlocks

set_option maxHeartbeats 4000000 in
set_option maxRecDepth 100000 in
/-- mend_a -/
theorem c_X2_mend_a (l : Launch) (hlt : l.stackTraces = false) (g : gT) (AD : Nat → Nat) (LL : Nat → ltT) (EE : Nat → evT) (LN : Nat → Nat) (lc ec : Nat) (hlc : lc ≤ 12) (hec : ec ≤ 24) (hLL : ∀ i, i < 12 → (LL i).2.2 ≤ 40) (hEE : ∀ q, q < ec → (EE q).1 = nI (LN q) ∧ LN q < lc ∧ (EE q).2.2.1 ≤ 40 ∧ (EE q).2.2.2.1 ≤ 8) (k : Nat) (hk : k < lc) (j : Nat) (hj : j < (LL k).2.2) (x : Int32) (hs : (decide (0 ≤ x) && decide (x ≤ 29)) = false) : xM g l yX2_mend wsX2_mend { frames := 8, cells := 1, slots := 6, locals := 126 } [.ref (AD 0), .int (nI k), .int (nI j), .int (x)] (fun H => va_P (gD g) vwCl (wsD g AD LL EE lc ec) H) "java/lang/IllegalArgumentException" := by
  refine xr_of (cc := cX2_mend) (maxL := 5) (ret := (some .int)) (by decide) rfl (Nat.le_of_ble_eq_true rfl) ?_
  intro p e s m args below meth c ls hx hb hml hts hown hK hP hZ hlocks ht hl
  have hl : lv_has ls 5 [(0, .ref (AD 0)), (1, .int (nI k)), (2, .int (nI j)), (3, .int (x))] := hl
  have S : CallFix p m c cX2_mend 5 s args wsX2_mend RX2 := ⟨hx, hb, hml, hown, hts⟩
  refine lv_aload_n hx hb dX2_mend_0 rfl (lv_at hl 0 rfl) ?_
  refine lv_iload_n hx hb dX2_mend_1 rfl (lv_at hl 1 rfl) ?_
  refine lv_iload_n hx hb dX2_mend_2 rfl (lv_at hl 2 rfl) ?_
  refine p_V (As := [.int (nI k), .int (nI j)]) (rest := []) S (c_X2_requireLetterWithPlace l g AD LL EE LN lc ec hlc hec hLL hEE k hk j hj) (cwV 2 hts gX2_mend_X2_requireLetterWithPlace rfl rfl rfl (by decide +kernel) ⟨Nat.le_of_ble_eq_true rfl, Nat.le_of_ble_eq_true rfl⟩) hK (va_recv hK.1 hP (ci := 2) (q0 := 0) rfl dk_me) (hP) rfl hl.1 rfl (Nat.le_of_ble_eq_true rfl) dX2_mend_3 ⟨Nat.le_of_ble_eq_true rfl, Nat.le_of_ble_eq_true rfl⟩ ?_
  refine lv_astore (lv' := [(4, .ref (AD (3 + 3 * k))), (0, .ref (AD 0)), (1, .int (nI k)), (2, .int (nI j)), (3, .int (x))]) hx hb dX2_mend_6 hl (by decide) rfl (fun ls hl => ?_)
  refine lv_iload_n hx hb dX2_mend_8 rfl (lv_at hl 4 rfl) ?_
  exact x_S (As := [.int (x)]) (rest := []) S (c_X2_requireWrittenSign_x l hlt g x hs) (va_cwS 1 hts gX2_mend_X2_requireWrittenSign rfl rfl rfl (by decide +kernel) ⟨Nat.le_of_ble_eq_true rfl, Nat.le_of_ble_eq_true rfl⟩) hK hZ  (trivial) rfl hl.1 rfl (Nat.le_of_ble_eq_true rfl) dX2_mend_9 ⟨Nat.le_of_ble_eq_true rfl, Nat.le_of_ble_eq_true rfl⟩ ht hlocks

set_option maxHeartbeats 4000000 in
set_option maxRecDepth 100000 in
/-- mend_s -/
theorem c_X2_mend_s (l : Launch) (hlt : l.stackTraces = false) (g : gT) (AD : Nat → Nat) (LL : Nat → ltT) (EE : Nat → evT) (LN : Nat → Nat) (lc ec : Nat) (hlc : lc ≤ 12) (hec : ec ≤ 24) (hLL : ∀ i, i < 12 → (LL i).2.2 ≤ 40) (hEE : ∀ q, q < ec → (EE q).1 = nI (LN q) ∧ LN q < lc ∧ (EE q).2.2.1 ≤ 40 ∧ (EE q).2.2.2.1 ≤ 8) (k : Nat) (hk : k < lc) (j : Nat) (hj : j < (LL k).2.2) (x : Int32) (hs : (decide (0 ≤ x) && decide (x ≤ 29)) = true) (hz : ¬ (LL k).1 j = 30) : xM g l yX2_mend wsX2_mend { frames := 8, cells := 1, slots := 6, locals := 126 } [.ref (AD 0), .int (nI k), .int (nI j), .int (x)] (fun H => va_P (gD g) vwCl (wsD g AD LL EE lc ec) H) "java/lang/IllegalStateException" := by
  refine xr_of (cc := cX2_mend) (maxL := 5) (ret := (some .int)) (by decide) rfl (Nat.le_of_ble_eq_true rfl) ?_
  intro p e s m args below meth c ls hx hb hml hts hown hK hP hZ hlocks ht hl
  have hl : lv_has ls 5 [(0, .ref (AD 0)), (1, .int (nI k)), (2, .int (nI j)), (3, .int (x))] := hl
  have S : CallFix p m c cX2_mend 5 s args wsX2_mend RX2 := ⟨hx, hb, hml, hown, hts⟩
  have hk40 := hLL k (by omega)
  have iX1 : ∀ w ∈ u_ws RX1 TX1 3, w ∈ wsX2_mend := by decide +kernel
  have n66 : (Cond.fieldLinkNest RX2 66 "LetterSeals$Letter" "signs" "[I" "LetterSeals").before args s = true := va_Nw.use rfl (hK.2.1 ("LetterSeals", 66, "LetterSeals$Letter", "signs", "[I") (List.mem_of_getElem? (i := 0) rfl))
  refine lv_aload_n hx hb dX2_mend_0 rfl (lv_at hl 0 rfl) ?_
  refine lv_iload_n hx hb dX2_mend_1 rfl (lv_at hl 1 rfl) ?_
  refine lv_iload_n hx hb dX2_mend_2 rfl (lv_at hl 2 rfl) ?_
  refine p_V (As := [.int (nI k), .int (nI j)]) (rest := []) S (c_X2_requireLetterWithPlace l g AD LL EE LN lc ec hlc hec hLL hEE k hk j hj) (cwV 2 hts gX2_mend_X2_requireLetterWithPlace rfl rfl rfl (by decide +kernel) ⟨Nat.le_of_ble_eq_true rfl, Nat.le_of_ble_eq_true rfl⟩) hK (va_recv hK.1 hP (ci := 2) (q0 := 0) rfl dk_me) (hP) rfl hl.1 rfl (Nat.le_of_ble_eq_true rfl) dX2_mend_3 ⟨Nat.le_of_ble_eq_true rfl, Nat.le_of_ble_eq_true rfl⟩ ?_
  refine lv_astore (lv' := [(4, .ref (AD (3 + 3 * k))), (0, .ref (AD 0)), (1, .int (nI k)), (2, .int (nI j)), (3, .int (x))]) hx hb dX2_mend_6 hl (by decide) rfl (fun ls hl => ?_)
  refine lv_iload_n hx hb dX2_mend_8 rfl (lv_at hl 4 rfl) ?_
  refine p_Sv (As := [.int (x)]) (rest := []) S (c_X2_requireWrittenSign l g x hs) (va_cwS 1 hts gX2_mend_X2_requireWrittenSign rfl rfl rfl (by decide +kernel) ⟨Nat.le_of_ble_eq_true rfl, Nat.le_of_ble_eq_true rfl⟩) hK  (trivial) rfl hl.1 rfl (Nat.le_of_ble_eq_true rfl) dX2_mend_9 ⟨Nat.le_of_ble_eq_true rfl, Nat.le_of_ble_eq_true rfl⟩ ?_
  refine lv_aload hx hb dX2_mend_12 (lv_at hl 0 rfl) ?_
  have hL1 := dk_letter hP (i := k) (by omega)
  refine va_getN (D := gD g) (ci := 1) (v := .ref (AD (4 + 3 * k))) (C := RX1) (T := TX1) (N := 3) hx hb hts iX1 hown hK.1 hL1 0 rfl rfl 0 (by decide) n66 (fun _ h9 => h9) rfl dX2_mend_14 ?_
  refine lv_iload_n hx hb dX2_mend_17 rfl (lv_at hl 3 rfl) ?_
  refine ld_I (k := j) (n := 40) (f := (LL k).1) hx hb hK.1 hL1 1 rfl (by omega) (by omega) dX2_mend_18 ?_
  refine lv_bipush (v := 30) hx hb dX2_mend_19 (by decide +kernel) ?_
  refine lv_icmp_eq (tgt := 34) hx hb dX2_mend_21 (by decide) (fun c21 => ?_) (fun c21 => ?_)
  · exact absurd c21 hz
  · exact x_throw (E := "java/lang/IllegalStateException") (text := "the sign is not blurred") (ik := 45) (is := 78) (ic := 49) hx hb hlt hown hts (by decide +kernel) (by decide +kernel) (by decide +kernel) (by decide +kernel) (by decide +kernel) (by decide +kernel) hK (List.mem_of_getElem? (i := 2) rfl) (List.mem_of_getElem? (i := 8) rfl) hZ (hl.1.trans hml.symm) dX2_mend_24 dX2_mend_27 dX2_mend_28 dX2_mend_30 dX2_mend_33 ht (Nat.le_of_ble_eq_true rfl) (Nat.le_of_ble_eq_true rfl) (Nat.le_of_ble_eq_true rfl) (Nat.le_of_ble_eq_true rfl) hlocks
