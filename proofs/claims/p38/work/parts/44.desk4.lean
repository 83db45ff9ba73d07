set_option maxHeartbeats 4000000 in
set_option maxRecDepth 100000 in
/-- withLetter -/
theorem c_X2_withLetter (l : Launch) (g : gT) (h a b : Nat) (f w : Nat → Int32) (n : Nat) (hn : n ≤ 40) (x : Int64) : wM g l yX2_withLetter wsX2_withLetter { frames := 3, cells := 0, slots := 0, locals := 72 } [.long (x), .ref (h)] (ltW g h a b f w n) (some (.long (wlJ x f n))) (ltW g h a b f (wnV f (wnV f w 2 n) 2 n) n) := by
  refine wr_ofJ (cc := cX2_withLetter) (maxL := 5) (by decide) rfl (Nat.le_of_ble_eq_true rfl) ?_
  intro p e s m args below meth c H0 ls A Q hx hb hml hts hown hK hP hD hS hl hret
  have hl : lv_has ls 5 [(0, .long (x)), (2, .ref (h))] := hl
  have S : CallFix p m c cX2_withLetter 5 s args wsX2_withLetter RX2 := ⟨hx, hb, hml, hown, hts⟩
  have iX1 : ∀ w ∈ u_ws RX1 TX1 3, w ∈ wsX2_withLetter := by decide +kernel
  have n42 : (Cond.fieldLinkNest RX2 42 "LetterSeals$Letter" "count" "I" "LetterSeals").before args s = true := va_Nw.use rfl (hK.2.1 ("LetterSeals", 42, "LetterSeals$Letter", "count", "I") (List.mem_of_getElem? (i := 3) rfl))
  have kl167 := hts (.constantLong RX2 167 (31)) (by decide +kernel)
  obtain ⟨H, eH⟩ : ∃ H : Heap, H = H0 := ⟨_, rfl⟩
  rw [← eH] at hP ⊢
  have hS : va_S A H0 H [] := by rw [eH]; exact hS
  have hP : va_P (gD g) vwCl [(h, .inr (1, [.ref (a), .ref (b), .int (nI n)])), (a, .inl (gI g, 40, .inl (f))), (b, .inl (gI g, 40, .inl (w)))] H := hP
  have hD : va_D A [(h, .inr (1, [.ref (a), .ref (b), .int (nI n)])), (a, .inl (gI g, 40, .inl (f))), (b, .inl (gI g, 40, .inl (w)))] := hD
  refine lv_lload_n hx hb dX2_withLetter_0 rfl (lv_at hl 0 rfl) ?_
  refine lv_lstore_n (lv' := [(3, .long (x)), (0, .long (x)), (2, .ref (h))]) hx hb dX2_withLetter_1 rfl hl (by decide) rfl (fun ls hl => ?_)
  refine lv_lload_n hx hb dX2_withLetter_2 rfl (lv_at hl 0 rfl) ?_
  refine lv_ldc2 (v := 31) hx hb hown kl167 dX2_withLetter_3 ?_
  refine lv_lmul hx hb dX2_withLetter_6 ?_
  refine lv_aload_n hx hb dX2_withLetter_7 rfl (lv_at hl 2 rfl) ?_
  refine va_getN (D := gD g) (ci := 1) (v := .int (nI n)) (C := RX1) (T := TX1) (N := 3) hx hb hts iX1 hown hK.1 hP 0 rfl rfl 2 (by decide) n42 (fun _ h9 => h9) rfl dX2_withLetter_8 ?_
  refine lv_i2l (v := (nI n).toInt64) hx hb dX2_withLetter_11 rfl ?_
  refine lv_ladd hx hb dX2_withLetter_12 ?_
  refine lv_lstore_n (lv' := [(3, .long (((x) * (31)) + ((nI n).toInt64))), (0, .long (x)), (2, .ref (h))]) hx hb dX2_withLetter_13 rfl hl (by decide) rfl (fun ls hl => ?_)
  refine lv_lload_n hx hb dX2_withLetter_14 rfl (lv_at hl 0 rfl) ?_
  refine lv_ldc2 (v := 31) hx hb hown kl167 dX2_withLetter_15 ?_
  refine lv_lmul hx hb dX2_withLetter_18 ?_
  refine lv_aload_n hx hb dX2_withLetter_19 rfl (lv_at hl 2 rfl) ?_
  refine lv_bipush (v := 27) hx hb dX2_withLetter_20 (by decide +kernel) ?_
  refine p_V (As := [.int (27)]) (rest := [.long ((((x) * (31)) + ((nI n).toInt64)) * (31))]) S (c_X1_countOf l g h a b f w n hn 27) (cwV 1 hts gX2_withLetter_X1_countOf rfl rfl rfl (by decide +kernel) ⟨Nat.le_of_ble_eq_true rfl, Nat.le_of_ble_eq_true rfl⟩) hK (va_recv hK.1 hP (ci := 1) (q0 := 0) rfl rfl) (hP) rfl hl.1 rfl (Nat.le_of_ble_eq_true rfl) dX2_withLetter_22 ⟨Nat.le_of_ble_eq_true rfl, Nat.le_of_ble_eq_true rfl⟩ ?_
  refine lv_i2l (v := (cntF f 27 n).toInt64) hx hb dX2_withLetter_25 rfl ?_
  refine lv_ladd hx hb dX2_withLetter_26 ?_
  refine lv_lstore_n (lv' := [(3, .long (((((x) * (31)) + ((nI n).toInt64)) * (31)) + ((cntF f 27 n).toInt64))), (0, .long (x)), (2, .ref (h))]) hx hb dX2_withLetter_27 rfl hl (by decide) rfl (fun ls hl => ?_)
  refine lv_lload_n hx hb dX2_withLetter_28 rfl (lv_at hl 0 rfl) ?_
  refine lv_ldc2 (v := 31) hx hb hown kl167 dX2_withLetter_29 ?_
  refine lv_lmul hx hb dX2_withLetter_32 ?_
  refine lv_aload_n hx hb dX2_withLetter_33 rfl (lv_at hl 2 rfl) ?_
  refine lv_bipush (v := 30) hx hb dX2_withLetter_34 (by decide +kernel) ?_
  refine p_V (As := [.int (30)]) (rest := [.long ((((((x) * (31)) + ((nI n).toInt64)) * (31)) + ((cntF f 27 n).toInt64)) * (31))]) S (c_X1_countOf l g h a b f w n hn 30) (cwV 1 hts gX2_withLetter_X1_countOf rfl rfl rfl (by decide +kernel) ⟨Nat.le_of_ble_eq_true rfl, Nat.le_of_ble_eq_true rfl⟩) hK (va_recv hK.1 hP (ci := 1) (q0 := 0) rfl rfl) (hP) rfl hl.1 rfl (Nat.le_of_ble_eq_true rfl) dX2_withLetter_36 ⟨Nat.le_of_ble_eq_true rfl, Nat.le_of_ble_eq_true rfl⟩ ?_
  refine lv_i2l (v := (cntF f 30 n).toInt64) hx hb dX2_withLetter_39 rfl ?_
  refine lv_ladd hx hb dX2_withLetter_40 ?_
  refine lv_lstore_n (lv' := [(3, .long (((((((x) * (31)) + ((nI n).toInt64)) * (31)) + ((cntF f 27 n).toInt64)) * (31)) + ((cntF f 30 n).toInt64))), (0, .long (x)), (2, .ref (h))]) hx hb dX2_withLetter_41 rfl hl (by decide) rfl (fun ls hl => ?_)
  refine lv_lload_n hx hb dX2_withLetter_42 rfl (lv_at hl 0 rfl) ?_
  refine lv_ldc2 (v := 31) hx hb hown kl167 dX2_withLetter_43 ?_
  refine lv_lmul hx hb dX2_withLetter_46 ?_
  refine lv_aload_n hx hb dX2_withLetter_47 rfl (lv_at hl 2 rfl) ?_
  refine p_V (As := []) (rest := [.long ((((((((x) * (31)) + ((nI n).toInt64)) * (31)) + ((cntF f 27 n).toInt64)) * (31)) + ((cntF f 30 n).toInt64)) * (31))]) S (c_X1_signDigest l g h a b f w n hn) (cwV 0 hts gX2_withLetter_X1_signDigest rfl rfl rfl (by decide +kernel) ⟨Nat.le_of_ble_eq_true rfl, Nat.le_of_ble_eq_true rfl⟩) hK (va_recv hK.1 hP (ci := 1) (q0 := 0) rfl rfl) (hP) rfl hl.1 rfl (Nat.le_of_ble_eq_true rfl) dX2_withLetter_48 ⟨Nat.le_of_ble_eq_true rfl, Nat.le_of_ble_eq_true rfl⟩ ?_
  refine lv_i2l (v := (dgF f n).toInt64) hx hb dX2_withLetter_51 rfl ?_
  refine lv_ladd hx hb dX2_withLetter_52 ?_
  refine lv_lstore_n (lv' := [(3, .long (((((((((x) * (31)) + ((nI n).toInt64)) * (31)) + ((cntF f 27 n).toInt64)) * (31)) + ((cntF f 30 n).toInt64)) * (31)) + ((dgF f n).toInt64))), (0, .long (x)), (2, .ref (h))]) hx hb dX2_withLetter_53 rfl hl (by decide) rfl (fun ls hl => ?_)
  refine lv_lload_n hx hb dX2_withLetter_54 rfl (lv_at hl 0 rfl) ?_
  refine lv_ldc2 (v := 31) hx hb hown kl167 dX2_withLetter_55 ?_
  refine lv_lmul hx hb dX2_withLetter_58 ?_
  refine lv_aload_n hx hb dX2_withLetter_59 rfl (lv_at hl 2 rfl) ?_
  refine lv_iconst (v := nI (2)) hx hb dX2_withLetter_60 (by decide +kernel) ?_
  refine w_V (As := [.int (nI (2))]) (rest := [.long ((((((((((x) * (31)) + ((nI n).toInt64)) * (31)) + ((cntF f 27 n).toInt64)) * (31)) + ((cntF f 30 n).toInt64)) * (31)) + ((dgF f n).toInt64)) * (31))]) S (c_X1_sameSumPairsU l g h a b f w n hn 2 (by decide) (by decide)) (cwV 1 hts gX2_withLetter_X1_sameSumPairs rfl rfl rfl (by decide +kernel) ⟨Nat.le_of_ble_eq_true rfl, Nat.le_of_ble_eq_true rfl⟩) hK (va_recv hK.1 hP (ci := 1) (q0 := 0) rfl rfl) hP (hD.weaken (fun _ _ _ _ => trivial)) hS (wA_D hD [0, 1, 2] rfl) rfl hl.1 rfl (Nat.le_of_ble_eq_true rfl) dX2_withLetter_61 ⟨Nat.le_of_ble_eq_true rfl, Nat.le_of_ble_eq_true rfl⟩ (fun H locs hP1 hz1 hk1 hS => ?_)
  have hP : va_P (gD g) vwCl [(h, .inr (1, [.ref (a), .ref (b), .int (nI n)])), (a, .inl (gI g, 40, .inl (f))), (b, .inl (gI g, 40, .inl (wnV f w 2 n)))] H := hP1
  have hD : va_D A [(h, .inr (1, [.ref (a), .ref (b), .int (nI n)])), (a, .inl (gI g, 40, .inl (f))), (b, .inl (gI g, 40, .inl (wnV f w 2 n)))] := D_same hD rfl
  refine lv_i2l (v := (ssV f 2 false n).toInt64) hx hb dX2_withLetter_64 rfl ?_
  refine lv_ladd hx hb dX2_withLetter_65 ?_
  refine lv_lstore_n (lv' := [(3, .long (((((((((((x) * (31)) + ((nI n).toInt64)) * (31)) + ((cntF f 27 n).toInt64)) * (31)) + ((cntF f 30 n).toInt64)) * (31)) + ((dgF f n).toInt64)) * (31)) + ((ssV f 2 false n).toInt64))), (0, .long (x)), (2, .ref (h))]) hx hb dX2_withLetter_66 rfl hl (by decide) rfl (fun ls hl => ?_)
  refine lv_lload_n hx hb dX2_withLetter_67 rfl (lv_at hl 0 rfl) ?_
  refine lv_ldc2 (v := 31) hx hb hown kl167 dX2_withLetter_68 ?_
  refine lv_lmul hx hb dX2_withLetter_71 ?_
  refine lv_aload_n hx hb dX2_withLetter_72 rfl (lv_at hl 2 rfl) ?_
  refine lv_iconst (v := nI (2)) hx hb dX2_withLetter_73 (by decide +kernel) ?_
  refine w_V (As := [.int (nI (2))]) (rest := [.long ((((((((((((x) * (31)) + ((nI n).toInt64)) * (31)) + ((cntF f 27 n).toInt64)) * (31)) + ((cntF f 30 n).toInt64)) * (31)) + ((dgF f n).toInt64)) * (31)) + ((ssV f 2 false n).toInt64)) * (31))]) S (c_X1_falseAlarmPairsU l g h a b f (wnV f w 2 n) n hn 2 (by decide) (by decide)) (cwV 1 hts gX2_withLetter_X1_falseAlarmPairs rfl rfl rfl (by decide +kernel) ⟨Nat.le_of_ble_eq_true rfl, Nat.le_of_ble_eq_true rfl⟩) hK (va_recv hK.1 hP (ci := 1) (q0 := 0) rfl rfl) hP (hD.weaken (fun _ _ _ _ => trivial)) hS (wA_D hD [0, 1, 2] rfl) rfl hl.1 rfl (Nat.le_of_ble_eq_true rfl) dX2_withLetter_74 ⟨Nat.le_of_ble_eq_true rfl, Nat.le_of_ble_eq_true rfl⟩ (fun H locs hP1 hz1 hk1 hS => ?_)
  have hP : va_P (gD g) vwCl [(h, .inr (1, [.ref (a), .ref (b), .int (nI n)])), (a, .inl (gI g, 40, .inl (f))), (b, .inl (gI g, 40, .inl (wnV f (wnV f w 2 n) 2 n)))] H := hP1
  have hD : va_D A [(h, .inr (1, [.ref (a), .ref (b), .int (nI n)])), (a, .inl (gI g, 40, .inl (f))), (b, .inl (gI g, 40, .inl (wnV f (wnV f w 2 n) 2 n)))] := D_same hD rfl
  refine lv_i2l (v := (ssV f 2 true n).toInt64) hx hb dX2_withLetter_77 rfl ?_
  refine lv_ladd hx hb dX2_withLetter_78 ?_
  refine lv_lstore_n (lv' := [(3, .long (((((((((((((x) * (31)) + ((nI n).toInt64)) * (31)) + ((cntF f 27 n).toInt64)) * (31)) + ((cntF f 30 n).toInt64)) * (31)) + ((dgF f n).toInt64)) * (31)) + ((ssV f 2 false n).toInt64)) * (31)) + ((ssV f 2 true n).toInt64))), (0, .long (x)), (2, .ref (h))]) hx hb dX2_withLetter_79 rfl hl (by decide) rfl (fun ls hl => ?_)
  refine lv_lload_n hx hb dX2_withLetter_80 rfl (lv_at hl 0 rfl) ?_
  refine lv_ldc2 (v := 31) hx hb hown kl167 dX2_withLetter_81 ?_
  refine lv_lmul hx hb dX2_withLetter_84 ?_
  refine lv_aload_n hx hb dX2_withLetter_85 rfl (lv_at hl 2 rfl) ?_
  refine p_V (As := []) (rest := [.long ((((((((((((((x) * (31)) + ((nI n).toInt64)) * (31)) + ((cntF f 27 n).toInt64)) * (31)) + ((cntF f 30 n).toInt64)) * (31)) + ((dgF f n).toInt64)) * (31)) + ((ssV f 2 false n).toInt64)) * (31)) + ((ssV f 2 true n).toInt64)) * (31))]) S (c_X1_unnoticedPlaces l g h a b f (wnV f (wnV f w 2 n) 2 n) n hn) (cwV 0 hts gX2_withLetter_X1_unnoticedPlaces rfl rfl rfl (by decide +kernel) ⟨Nat.le_of_ble_eq_true rfl, Nat.le_of_ble_eq_true rfl⟩) hK (va_recv hK.1 hP (ci := 1) (q0 := 0) rfl rfl) (hP) rfl hl.1 rfl (Nat.le_of_ble_eq_true rfl) dX2_withLetter_86 ⟨Nat.le_of_ble_eq_true rfl, Nat.le_of_ble_eq_true rfl⟩ ?_
  refine lv_i2l (v := (unF f n).toInt64) hx hb dX2_withLetter_89 rfl ?_
  refine lv_ladd hx hb dX2_withLetter_90 ?_
  refine lv_lstore_n (lv' := [(3, .long (((((((((((((((x) * (31)) + ((nI n).toInt64)) * (31)) + ((cntF f 27 n).toInt64)) * (31)) + ((cntF f 30 n).toInt64)) * (31)) + ((dgF f n).toInt64)) * (31)) + ((ssV f 2 false n).toInt64)) * (31)) + ((ssV f 2 true n).toInt64)) * (31)) + ((unF f n).toInt64))), (0, .long (x)), (2, .ref (h))]) hx hb dX2_withLetter_91 rfl hl (by decide) rfl (fun ls hl => ?_)
  refine lv_lload_n hx hb dX2_withLetter_92 rfl (lv_at hl 0 rfl) ?_
  refine lv_ldc2 (v := 31) hx hb hown kl167 dX2_withLetter_93 ?_
  refine lv_lmul hx hb dX2_withLetter_96 ?_
  refine lv_aload_n hx hb dX2_withLetter_97 rfl (lv_at hl 2 rfl) ?_
  refine p_V (As := []) (rest := [.long ((((((((((((((((x) * (31)) + ((nI n).toInt64)) * (31)) + ((cntF f 27 n).toInt64)) * (31)) + ((cntF f 30 n).toInt64)) * (31)) + ((dgF f n).toInt64)) * (31)) + ((ssV f 2 false n).toInt64)) * (31)) + ((ssV f 2 true n).toInt64)) * (31)) + ((unF f n).toInt64)) * (31))]) S (c_X1_worstPlace l g h a b f (wnV f (wnV f w 2 n) 2 n) n hn) (cwV 0 hts gX2_withLetter_X1_worstPlace rfl rfl rfl (by decide +kernel) ⟨Nat.le_of_ble_eq_true rfl, Nat.le_of_ble_eq_true rfl⟩) hK (va_recv hK.1 hP (ci := 1) (q0 := 0) rfl rfl) (hP) rfl hl.1 rfl (Nat.le_of_ble_eq_true rfl) dX2_withLetter_98 ⟨Nat.le_of_ble_eq_true rfl, Nat.le_of_ble_eq_true rfl⟩ ?_
  refine lv_i2l (v := ((wkS f n (dgF f n) n).1).toInt64) hx hb dX2_withLetter_101 rfl ?_
  refine lv_ladd hx hb dX2_withLetter_102 ?_
  refine lv_lstore_n (lv' := [(3, .long (((((((((((((((((x) * (31)) + ((nI n).toInt64)) * (31)) + ((cntF f 27 n).toInt64)) * (31)) + ((cntF f 30 n).toInt64)) * (31)) + ((dgF f n).toInt64)) * (31)) + ((ssV f 2 false n).toInt64)) * (31)) + ((ssV f 2 true n).toInt64)) * (31)) + ((unF f n).toInt64)) * (31)) + (((wkS f n (dgF f n) n).1).toInt64))), (0, .long (x)), (2, .ref (h))]) hx hb dX2_withLetter_103 rfl hl (by decide) rfl (fun ls hl => ?_)
  refine lv_lload_n hx hb dX2_withLetter_104 rfl (lv_at hl 0 rfl) ?_
  refine lv_toJ (z := wlJ x f n) (rfl) ?_
  exact hret _ _ _ _ hP hS dX2_withLetter_105

set_option maxHeartbeats 4000000 in
set_option maxRecDepth 100000 in
/-- withEnvelope -/
theorem c_X2_withEnvelope (l : Launch) (g : gT) (AD : Nat → Nat) (LL : Nat → ltT) (EE : Nat → evT) (LN : Nat → Nat) (lc ec : Nat) (hlc : lc ≤ 12) (hec : ec ≤ 24) (hLL : ∀ i, i < 12 → (LL i).2.2 ≤ 40) (hEE : ∀ q, q < ec → (EE q).1 = nI (LN q) ∧ LN q < lc ∧ (EE q).2.2.1 ≤ 40 ∧ (EE q).2.2.2.1 ≤ 8) (x : Int64) (q : Nat) (hq : q < ec) : pM g l yX2_withEnvelope wsX2_withEnvelope { frames := 3, cells := 0, slots := 0, locals := 71 } [.ref (AD 0), .long (x), .ref (AD (39 + 2 * q))] (fun H => va_P (gD g) vwCl (wsD g AD LL EE lc ec) H) (.long (weJ x LL EE LN q)) := by
  refine pu_ofJ (cc := cX2_withEnvelope) (maxL := 7) (by decide) rfl (Nat.le_of_ble_eq_true rfl) ?_
  intro p e s m args below meth c H ls Q hx hb hml hts hown hK hP hl hret
  have hl : lv_has ls 7 [(0, .ref (AD 0)), (1, .long (x)), (3, .ref (AD (39 + 2 * q)))] := hl
  have S : CallFix p m c cX2_withEnvelope 7 s args wsX2_withEnvelope RX2 := ⟨hx, hb, hml, hown, hts⟩
  have iX0 : ∀ w ∈ u_ws RX0 TX0 8, w ∈ wsX2_withEnvelope := by decide +kernel
  have iX2 : ∀ w ∈ u_ws RX2 TX2 4, w ∈ wsX2_withEnvelope := by decide +kernel
  have f11 := hts (.fieldLink RX2 11 "LetterSeals" "letterRow" "[LLetterSeals$Letter;") (by decide +kernel)
  have n98 : (Cond.fieldLinkNest RX2 98 "LetterSeals$Envelope" "seal" "I" "LetterSeals").before args s = true := va_Nw.use rfl (hK.2.1 ("LetterSeals", 98, "LetterSeals$Envelope", "seal", "I") (List.mem_of_getElem? (i := 6) rfl))
  have n133 : (Cond.fieldLinkNest RX2 133 "LetterSeals$Envelope" "letterNumber" "I" "LetterSeals").before args s = true := va_Nw.use rfl (hK.2.1 ("LetterSeals", 133, "LetterSeals$Envelope", "letterNumber", "I") (List.mem_of_getElem? (i := 4) rfl))
  have n136 : (Cond.fieldLinkNest RX2 136 "LetterSeals$Envelope" "digest" "I" "LetterSeals").before args s = true := va_Nw.use rfl (hK.2.1 ("LetterSeals", 136, "LetterSeals$Envelope", "digest", "I") (List.mem_of_getElem? (i := 5) rfl))
  have kl167 := hts (.constantLong RX2 167 (31)) (by decide +kernel)
  refine lv_aload_n hx hb dX2_withEnvelope_0 rfl (lv_at hl 0 rfl) ?_
  refine va_get (D := gD g) (ci := 2) (v := .ref (AD 1)) (C := RX2) (T := TX2) (N := 4) hx hb hts iX2 hown hK.1 hP 0 dk_me rfl 0 (by decide) f11 (fun _ h9 => h9) rfl dX2_withEnvelope_1 ?_
  refine lv_aload_n hx hb dX2_withEnvelope_4 rfl (lv_at hl 2 rfl) ?_
  have hE1 := dk_env hP (q := q) (by omega)
  refine va_getN (D := gD g) (ci := 0) (v := .int ((EE q).1)) (C := RX0) (T := TX0) (N := 8) hx hb hts iX0 hown hK.1 hE1 0 rfl rfl 1 (by decide) n133 (fun _ h9 => h9) rfl dX2_withEnvelope_5 ?_
  have hln := (hEE q hq).2.1
  refine lv_toI (z := nI (LN q)) ((hEE q hq).1) ?_
  refine ld_Q (C := "LetterSeals$Letter") (k := LN q) (n := 12) (f := fun i => some (AD (3 + 3 * i))) (r := AD (3 + 3 * (LN q))) hx hb hK.1 hP 1 1 dk_lr rfl (by omega) (by decide) rfl dX2_withEnvelope_8 ?_
  refine lv_astore (lv' := [(4, .ref (AD (3 + 3 * (LN q)))), (0, .ref (AD 0)), (1, .long (x)), (3, .ref (AD (39 + 2 * q)))]) hx hb dX2_withEnvelope_9 hl (by decide) rfl (fun ls hl => ?_)
  refine lv_lload_n hx hb dX2_withEnvelope_11 rfl (lv_at hl 2 rfl) ?_
  refine lv_lstore (lv' := [(5, .long (x)), (4, .ref (AD (3 + 3 * (LN q)))), (0, .ref (AD 0)), (1, .long (x)), (3, .ref (AD (39 + 2 * q)))]) hx hb dX2_withEnvelope_12 hl (by decide) rfl (fun ls hl => ?_)
  refine lv_lload hx hb dX2_withEnvelope_14 (lv_at hl 0 rfl) ?_
  refine lv_ldc2 (v := 31) hx hb hown kl167 dX2_withEnvelope_16 ?_
  refine lv_lmul hx hb dX2_withEnvelope_19 ?_
  refine lv_aload_n hx hb dX2_withEnvelope_20 rfl (lv_at hl 4 rfl) ?_
  refine va_getN (D := gD g) (ci := 0) (v := .int ((EE q).1)) (C := RX0) (T := TX0) (N := 8) hx hb hts iX0 hown hK.1 hE1 0 rfl rfl 1 (by decide) n133 (fun _ h9 => h9) rfl dX2_withEnvelope_21 ?_
  refine lv_toI (z := nI (LN q)) ((hEE q hq).1) ?_
  refine lv_i2l (v := (nI (LN q)).toInt64) hx hb dX2_withEnvelope_24 rfl ?_
  refine lv_ladd hx hb dX2_withEnvelope_25 ?_
  refine lv_lstore (lv' := [(5, .long (((x) * (31)) + ((nI (LN q)).toInt64))), (4, .ref (AD (3 + 3 * (LN q)))), (0, .ref (AD 0)), (1, .long (x)), (3, .ref (AD (39 + 2 * q)))]) hx hb dX2_withEnvelope_26 hl (by decide) rfl (fun ls hl => ?_)
  refine lv_lload hx hb dX2_withEnvelope_28 (lv_at hl 0 rfl) ?_
  refine lv_ldc2 (v := 31) hx hb hown kl167 dX2_withEnvelope_30 ?_
  refine lv_lmul hx hb dX2_withEnvelope_33 ?_
  refine lv_aload_n hx hb dX2_withEnvelope_34 rfl (lv_at hl 4 rfl) ?_
  refine va_getN (D := gD g) (ci := 0) (v := .int ((EE q).2.1)) (C := RX0) (T := TX0) (N := 8) hx hb hts iX0 hown hK.1 hE1 0 rfl rfl 2 (by decide) n136 (fun _ h9 => h9) rfl dX2_withEnvelope_35 ?_
  refine lv_i2l (v := ((EE q).2.1).toInt64) hx hb dX2_withEnvelope_38 rfl ?_
  refine lv_ladd hx hb dX2_withEnvelope_39 ?_
  refine lv_lstore (lv' := [(5, .long (((((x) * (31)) + ((nI (LN q)).toInt64)) * (31)) + (((EE q).2.1).toInt64))), (4, .ref (AD (3 + 3 * (LN q)))), (0, .ref (AD 0)), (1, .long (x)), (3, .ref (AD (39 + 2 * q)))]) hx hb dX2_withEnvelope_40 hl (by decide) rfl (fun ls hl => ?_)
  refine lv_lload hx hb dX2_withEnvelope_42 (lv_at hl 0 rfl) ?_
  refine lv_ldc2 (v := 31) hx hb hown kl167 dX2_withEnvelope_44 ?_
  refine lv_lmul hx hb dX2_withEnvelope_47 ?_
  refine lv_aload_n hx hb dX2_withEnvelope_48 rfl (lv_at hl 4 rfl) ?_
  refine va_getN (D := gD g) (ci := 0) (v := .int ((EE q).2.2.2.2.2.2.1)) (C := RX0) (T := TX0) (N := 8) hx hb hts iX0 hown hK.1 hE1 0 rfl rfl 7 (by decide) n98 (fun _ h9 => h9) rfl dX2_withEnvelope_49 ?_
  refine lv_i2l (v := ((EE q).2.2.2.2.2.2.1).toInt64) hx hb dX2_withEnvelope_52 rfl ?_
  refine lv_ladd hx hb dX2_withEnvelope_53 ?_
  refine lv_lstore (lv' := [(5, .long (((((((x) * (31)) + ((nI (LN q)).toInt64)) * (31)) + (((EE q).2.1).toInt64)) * (31)) + (((EE q).2.2.2.2.2.2.1).toInt64))), (4, .ref (AD (3 + 3 * (LN q)))), (0, .ref (AD 0)), (1, .long (x)), (3, .ref (AD (39 + 2 * q)))]) hx hb dX2_withEnvelope_54 hl (by decide) rfl (fun ls hl => ?_)
  refine lv_lload hx hb dX2_withEnvelope_56 (lv_at hl 0 rfl) ?_
  refine lv_ldc2 (v := 31) hx hb hown kl167 dX2_withEnvelope_58 ?_
  refine lv_lmul hx hb dX2_withEnvelope_61 ?_
  refine lv_aload_n hx hb dX2_withEnvelope_62 rfl (lv_at hl 4 rfl) ?_
  refine lv_aload hx hb dX2_withEnvelope_63 (lv_at hl 1 rfl) ?_
  have hL2 := dk_letter hP (i := LN q) (by omega)
  refine p_V (As := [.ref (AD (3 + 3 * (LN q)))]) (rest := [.long ((((((((x) * (31)) + ((nI (LN q)).toInt64)) * (31)) + (((EE q).2.1).toInt64)) * (31)) + (((EE q).2.2.2.2.2.2.1).toInt64)) * (31))]) S (c_X0_fits l g (AD (39 + 2 * q)) (AD (40 + 2 * q)) (EE q).1 (EE q).2.1 (EE q).2.2.1 (EE q).2.2.2.1 (EE q).2.2.2.2.1 (EE q).2.2.2.2.2.1 (EE q).2.2.2.2.2.2.1 (EE q).2.2.2.2.2.2.2 (hEE q (by omega)).2.2.1 (hEE q (by omega)).2.2.2 (AD (3 + 3 * (LN q))) (AD (4 + 3 * (LN q))) (AD (5 + 3 * (LN q))) ((LL (LN q)).1) ((LL (LN q)).2.1) ((LL (LN q)).2.2) (hLL _ (by omega))) (cwV 1 hts gX2_withEnvelope_X0_fits rfl rfl rfl (by decide +kernel) ⟨Nat.le_of_ble_eq_true rfl, Nat.le_of_ble_eq_true rfl⟩) hK (va_recv hK.1 hE1 (ci := 0) (q0 := 0) rfl rfl) (⟨hE1, hL2⟩) rfl hl.1 rfl (Nat.le_of_ble_eq_true rfl) dX2_withEnvelope_65 ⟨Nat.le_of_ble_eq_true rfl, Nat.le_of_ble_eq_true rfl⟩ ?_
  refine lv_toI (z := bI (ftD LL EE LN q)) (rfl) ?_
  refine br_eqB (tgt := 75) hx hb dX2_withEnvelope_68 (by decide) (fun c68 => ?_) (fun c68 => ?_)
  · refine lv_iconst (v := 0) hx hb dX2_withEnvelope_75 (by decide +kernel) ?_
    refine lv_toI (z := bI (ftD LL EE LN q)) ((congrArg bI c68).symm) ?_
    refine lv_i2l (v := (bI (ftD LL EE LN q)).toInt64) hx hb dX2_withEnvelope_76 rfl ?_
    refine lv_ladd hx hb dX2_withEnvelope_77 ?_
    refine lv_lstore (lv' := [(5, .long (((((((((x) * (31)) + ((nI (LN q)).toInt64)) * (31)) + (((EE q).2.1).toInt64)) * (31)) + (((EE q).2.2.2.2.2.2.1).toInt64)) * (31)) + ((bI (ftD LL EE LN q)).toInt64))), (4, .ref (AD (3 + 3 * (LN q)))), (0, .ref (AD 0)), (1, .long (x)), (3, .ref (AD (39 + 2 * q)))]) hx hb dX2_withEnvelope_78 hl (by decide) rfl (fun ls hl => ?_)
    refine lv_lload hx hb dX2_withEnvelope_80 (lv_at hl 0 rfl) ?_
    refine lv_ldc2 (v := 31) hx hb hown kl167 dX2_withEnvelope_82 ?_
    refine lv_lmul hx hb dX2_withEnvelope_85 ?_
    refine lv_aload_n hx hb dX2_withEnvelope_86 rfl (lv_at hl 4 rfl) ?_
    refine lv_aload hx hb dX2_withEnvelope_87 (lv_at hl 1 rfl) ?_
    refine p_V (As := [.ref (AD (3 + 3 * (LN q)))]) (rest := [.long ((((((((((x) * (31)) + ((nI (LN q)).toInt64)) * (31)) + (((EE q).2.1).toInt64)) * (31)) + (((EE q).2.2.2.2.2.2.1).toInt64)) * (31)) + ((bI (ftD LL EE LN q)).toInt64)) * (31))]) S (c_X0_tornBlockCount l g (AD (39 + 2 * q)) (AD (40 + 2 * q)) (EE q).1 (EE q).2.1 (EE q).2.2.1 (EE q).2.2.2.1 (EE q).2.2.2.2.1 (EE q).2.2.2.2.2.1 (EE q).2.2.2.2.2.2.1 (EE q).2.2.2.2.2.2.2 (hEE q (by omega)).2.2.1 (hEE q (by omega)).2.2.2 (AD (3 + 3 * (LN q))) (AD (4 + 3 * (LN q))) (AD (5 + 3 * (LN q))) ((LL (LN q)).1) ((LL (LN q)).2.1) ((LL (LN q)).2.2) (hLL _ (by omega))) (cwV 1 hts gX2_withEnvelope_X0_tornBlockCount rfl rfl rfl (by decide +kernel) ⟨Nat.le_of_ble_eq_true rfl, Nat.le_of_ble_eq_true rfl⟩) hK (va_recv hK.1 hE1 (ci := 0) (q0 := 0) rfl rfl) (⟨hE1, hL2⟩) rfl hl.1 rfl (Nat.le_of_ble_eq_true rfl) dX2_withEnvelope_89 ⟨Nat.le_of_ble_eq_true rfl, Nat.le_of_ble_eq_true rfl⟩ ?_
    refine lv_i2l (v := (acF (toC (EE q).2.2.2.1 ((LL (LN q)).2.2) ((LL (LN q)).1) (EE q).2.2.2.2.2.2.2) 0 8).toInt64) hx hb dX2_withEnvelope_92 rfl ?_
    refine lv_ladd hx hb dX2_withEnvelope_93 ?_
    refine lv_lstore (lv' := [(5, .long (((((((((((x) * (31)) + ((nI (LN q)).toInt64)) * (31)) + (((EE q).2.1).toInt64)) * (31)) + (((EE q).2.2.2.2.2.2.1).toInt64)) * (31)) + ((bI (ftD LL EE LN q)).toInt64)) * (31)) + ((acF (toC (EE q).2.2.2.1 ((LL (LN q)).2.2) ((LL (LN q)).1) (EE q).2.2.2.2.2.2.2) 0 8).toInt64))), (4, .ref (AD (3 + 3 * (LN q)))), (0, .ref (AD 0)), (1, .long (x)), (3, .ref (AD (39 + 2 * q)))]) hx hb dX2_withEnvelope_94 hl (by decide) rfl (fun ls hl => ?_)
    refine lv_lload hx hb dX2_withEnvelope_96 (lv_at hl 0 rfl) ?_
    refine lv_ldc2 (v := 31) hx hb hown kl167 dX2_withEnvelope_98 ?_
    refine lv_lmul hx hb dX2_withEnvelope_101 ?_
    refine lv_aload_n hx hb dX2_withEnvelope_102 rfl (lv_at hl 4 rfl) ?_
    refine lv_aload hx hb dX2_withEnvelope_103 (lv_at hl 1 rfl) ?_
    refine p_V (As := [.ref (AD (3 + 3 * (LN q)))]) (rest := [.long ((((((((((((x) * (31)) + ((nI (LN q)).toInt64)) * (31)) + (((EE q).2.1).toInt64)) * (31)) + (((EE q).2.2.2.2.2.2.1).toInt64)) * (31)) + ((bI (ftD LL EE LN q)).toInt64)) * (31)) + ((acF (toC (EE q).2.2.2.1 ((LL (LN q)).2.2) ((LL (LN q)).1) (EE q).2.2.2.2.2.2.2) 0 8).toInt64)) * (31))]) S (c_X0_firstTornBlock l g (AD (39 + 2 * q)) (AD (40 + 2 * q)) (EE q).1 (EE q).2.1 (EE q).2.2.1 (EE q).2.2.2.1 (EE q).2.2.2.2.1 (EE q).2.2.2.2.2.1 (EE q).2.2.2.2.2.2.1 (EE q).2.2.2.2.2.2.2 (hEE q (by omega)).2.2.1 (hEE q (by omega)).2.2.2 (AD (3 + 3 * (LN q))) (AD (4 + 3 * (LN q))) (AD (5 + 3 * (LN q))) ((LL (LN q)).1) ((LL (LN q)).2.1) ((LL (LN q)).2.2) (hLL _ (by omega))) (cwV 1 hts gX2_withEnvelope_X0_firstTornBlock rfl rfl rfl (by decide +kernel) ⟨Nat.le_of_ble_eq_true rfl, Nat.le_of_ble_eq_true rfl⟩) hK (va_recv hK.1 hE1 (ci := 0) (q0 := 0) rfl rfl) (⟨hE1, hL2⟩) rfl hl.1 rfl (Nat.le_of_ble_eq_true rfl) dX2_withEnvelope_105 ⟨Nat.le_of_ble_eq_true rfl, Nat.le_of_ble_eq_true rfl⟩ ?_
    refine lv_i2l (v := (fsF (toC (EE q).2.2.2.1 ((LL (LN q)).2.2) ((LL (LN q)).1) (EE q).2.2.2.2.2.2.2) 8 0).toInt64) hx hb dX2_withEnvelope_108 rfl ?_
    refine lv_ladd hx hb dX2_withEnvelope_109 ?_
    refine lv_lstore (lv' := [(5, .long (((((((((((((x) * (31)) + ((nI (LN q)).toInt64)) * (31)) + (((EE q).2.1).toInt64)) * (31)) + (((EE q).2.2.2.2.2.2.1).toInt64)) * (31)) + ((bI (ftD LL EE LN q)).toInt64)) * (31)) + ((acF (toC (EE q).2.2.2.1 ((LL (LN q)).2.2) ((LL (LN q)).1) (EE q).2.2.2.2.2.2.2) 0 8).toInt64)) * (31)) + ((fsF (toC (EE q).2.2.2.1 ((LL (LN q)).2.2) ((LL (LN q)).1) (EE q).2.2.2.2.2.2.2) 8 0).toInt64))), (4, .ref (AD (3 + 3 * (LN q)))), (0, .ref (AD 0)), (1, .long (x)), (3, .ref (AD (39 + 2 * q)))]) hx hb dX2_withEnvelope_110 hl (by decide) rfl (fun ls hl => ?_)
    refine lv_lload hx hb dX2_withEnvelope_112 (lv_at hl 0 rfl) ?_
    refine lv_ldc2 (v := 31) hx hb hown kl167 dX2_withEnvelope_114 ?_
    refine lv_lmul hx hb dX2_withEnvelope_117 ?_
    refine lv_aload_n hx hb dX2_withEnvelope_118 rfl (lv_at hl 4 rfl) ?_
    refine lv_aload hx hb dX2_withEnvelope_119 (lv_at hl 1 rfl) ?_
    refine p_V (As := [.ref (AD (3 + 3 * (LN q)))]) (rest := [.long ((((((((((((((x) * (31)) + ((nI (LN q)).toInt64)) * (31)) + (((EE q).2.1).toInt64)) * (31)) + (((EE q).2.2.2.2.2.2.1).toInt64)) * (31)) + ((bI (ftD LL EE LN q)).toInt64)) * (31)) + ((acF (toC (EE q).2.2.2.1 ((LL (LN q)).2.2) ((LL (LN q)).1) (EE q).2.2.2.2.2.2.2) 0 8).toInt64)) * (31)) + ((fsF (toC (EE q).2.2.2.1 ((LL (LN q)).2.2) ((LL (LN q)).1) (EE q).2.2.2.2.2.2.2) 8 0).toInt64)) * (31))]) S (c_X0_placeOfChange l g (AD (39 + 2 * q)) (AD (40 + 2 * q)) (EE q).1 (EE q).2.1 (EE q).2.2.1 (EE q).2.2.2.1 (EE q).2.2.2.2.1 (EE q).2.2.2.2.2.1 (EE q).2.2.2.2.2.2.1 (EE q).2.2.2.2.2.2.2 (hEE q (by omega)).2.2.1 (hEE q (by omega)).2.2.2 (AD (3 + 3 * (LN q))) (AD (4 + 3 * (LN q))) (AD (5 + 3 * (LN q))) ((LL (LN q)).1) ((LL (LN q)).2.1) ((LL (LN q)).2.2) (hLL _ (by omega))) (cwV 1 hts gX2_withEnvelope_X0_placeOfChange rfl rfl rfl (by decide +kernel) ⟨Nat.le_of_ble_eq_true rfl, Nat.le_of_ble_eq_true rfl⟩) hK (va_recv hK.1 hE1 (ci := 0) (q0 := 0) rfl rfl) (⟨hE1, hL2⟩) rfl hl.1 rfl (Nat.le_of_ble_eq_true rfl) dX2_withEnvelope_121 ⟨Nat.le_of_ble_eq_true rfl, Nat.le_of_ble_eq_true rfl⟩ ?_
    refine lv_i2l (v := (chC (decide (dgF ((LL (LN q)).1) ((LL (LN q)).2.2) = (EE q).2.1)) ((EE q).2.2.1) ((LL (LN q)).2.2) ((EE q).2.2.2.2.1 - smF ((LL (LN q)).1) ((LL (LN q)).2.2)) ((EE q).2.2.2.2.2.1 - wtF ((LL (LN q)).1) ((LL (LN q)).2.2)) ((LL (LN q)).1)).toInt64) hx hb dX2_withEnvelope_124 rfl ?_
    refine lv_ladd hx hb dX2_withEnvelope_125 ?_
    refine lv_lstore (lv' := [(5, .long (((((((((((((((x) * (31)) + ((nI (LN q)).toInt64)) * (31)) + (((EE q).2.1).toInt64)) * (31)) + (((EE q).2.2.2.2.2.2.1).toInt64)) * (31)) + ((bI (ftD LL EE LN q)).toInt64)) * (31)) + ((acF (toC (EE q).2.2.2.1 ((LL (LN q)).2.2) ((LL (LN q)).1) (EE q).2.2.2.2.2.2.2) 0 8).toInt64)) * (31)) + ((fsF (toC (EE q).2.2.2.1 ((LL (LN q)).2.2) ((LL (LN q)).1) (EE q).2.2.2.2.2.2.2) 8 0).toInt64)) * (31)) + ((chC (decide (dgF ((LL (LN q)).1) ((LL (LN q)).2.2) = (EE q).2.1)) ((EE q).2.2.1) ((LL (LN q)).2.2) ((EE q).2.2.2.2.1 - smF ((LL (LN q)).1) ((LL (LN q)).2.2)) ((EE q).2.2.2.2.2.1 - wtF ((LL (LN q)).1) ((LL (LN q)).2.2)) ((LL (LN q)).1)).toInt64))), (4, .ref (AD (3 + 3 * (LN q)))), (0, .ref (AD 0)), (1, .long (x)), (3, .ref (AD (39 + 2 * q)))]) hx hb dX2_withEnvelope_126 hl (by decide) rfl (fun ls hl => ?_)
    refine lv_lload hx hb dX2_withEnvelope_128 (lv_at hl 0 rfl) ?_
    refine lv_toJ (z := weJ x LL EE LN q) (rfl) ?_
    exact hret _ _ dX2_withEnvelope_130
  · refine lv_iconst (v := 1) hx hb dX2_withEnvelope_71 (by decide +kernel) ?_
    refine lv_goto (tgt := 76) hx hb dX2_withEnvelope_72 (by decide) ?_
    refine lv_toI (z := bI (ftD LL EE LN q)) ((congrArg bI c68).symm) ?_
    refine lv_i2l (v := (bI (ftD LL EE LN q)).toInt64) hx hb dX2_withEnvelope_76 rfl ?_
    refine lv_ladd hx hb dX2_withEnvelope_77 ?_
    refine lv_lstore (lv' := [(5, .long (((((((((x) * (31)) + ((nI (LN q)).toInt64)) * (31)) + (((EE q).2.1).toInt64)) * (31)) + (((EE q).2.2.2.2.2.2.1).toInt64)) * (31)) + ((bI (ftD LL EE LN q)).toInt64))), (4, .ref (AD (3 + 3 * (LN q)))), (0, .ref (AD 0)), (1, .long (x)), (3, .ref (AD (39 + 2 * q)))]) hx hb dX2_withEnvelope_78 hl (by decide) rfl (fun ls hl => ?_)
    refine lv_lload hx hb dX2_withEnvelope_80 (lv_at hl 0 rfl) ?_
    refine lv_ldc2 (v := 31) hx hb hown kl167 dX2_withEnvelope_82 ?_
    refine lv_lmul hx hb dX2_withEnvelope_85 ?_
    refine lv_aload_n hx hb dX2_withEnvelope_86 rfl (lv_at hl 4 rfl) ?_
    refine lv_aload hx hb dX2_withEnvelope_87 (lv_at hl 1 rfl) ?_
    refine p_V (As := [.ref (AD (3 + 3 * (LN q)))]) (rest := [.long ((((((((((x) * (31)) + ((nI (LN q)).toInt64)) * (31)) + (((EE q).2.1).toInt64)) * (31)) + (((EE q).2.2.2.2.2.2.1).toInt64)) * (31)) + ((bI (ftD LL EE LN q)).toInt64)) * (31))]) S (c_X0_tornBlockCount l g (AD (39 + 2 * q)) (AD (40 + 2 * q)) (EE q).1 (EE q).2.1 (EE q).2.2.1 (EE q).2.2.2.1 (EE q).2.2.2.2.1 (EE q).2.2.2.2.2.1 (EE q).2.2.2.2.2.2.1 (EE q).2.2.2.2.2.2.2 (hEE q (by omega)).2.2.1 (hEE q (by omega)).2.2.2 (AD (3 + 3 * (LN q))) (AD (4 + 3 * (LN q))) (AD (5 + 3 * (LN q))) ((LL (LN q)).1) ((LL (LN q)).2.1) ((LL (LN q)).2.2) (hLL _ (by omega))) (cwV 1 hts gX2_withEnvelope_X0_tornBlockCount rfl rfl rfl (by decide +kernel) ⟨Nat.le_of_ble_eq_true rfl, Nat.le_of_ble_eq_true rfl⟩) hK (va_recv hK.1 hE1 (ci := 0) (q0 := 0) rfl rfl) (⟨hE1, hL2⟩) rfl hl.1 rfl (Nat.le_of_ble_eq_true rfl) dX2_withEnvelope_89 ⟨Nat.le_of_ble_eq_true rfl, Nat.le_of_ble_eq_true rfl⟩ ?_
    refine lv_i2l (v := (acF (toC (EE q).2.2.2.1 ((LL (LN q)).2.2) ((LL (LN q)).1) (EE q).2.2.2.2.2.2.2) 0 8).toInt64) hx hb dX2_withEnvelope_92 rfl ?_
    refine lv_ladd hx hb dX2_withEnvelope_93 ?_
    refine lv_lstore (lv' := [(5, .long (((((((((((x) * (31)) + ((nI (LN q)).toInt64)) * (31)) + (((EE q).2.1).toInt64)) * (31)) + (((EE q).2.2.2.2.2.2.1).toInt64)) * (31)) + ((bI (ftD LL EE LN q)).toInt64)) * (31)) + ((acF (toC (EE q).2.2.2.1 ((LL (LN q)).2.2) ((LL (LN q)).1) (EE q).2.2.2.2.2.2.2) 0 8).toInt64))), (4, .ref (AD (3 + 3 * (LN q)))), (0, .ref (AD 0)), (1, .long (x)), (3, .ref (AD (39 + 2 * q)))]) hx hb dX2_withEnvelope_94 hl (by decide) rfl (fun ls hl => ?_)
    refine lv_lload hx hb dX2_withEnvelope_96 (lv_at hl 0 rfl) ?_
    refine lv_ldc2 (v := 31) hx hb hown kl167 dX2_withEnvelope_98 ?_
    refine lv_lmul hx hb dX2_withEnvelope_101 ?_
    refine lv_aload_n hx hb dX2_withEnvelope_102 rfl (lv_at hl 4 rfl) ?_
    refine lv_aload hx hb dX2_withEnvelope_103 (lv_at hl 1 rfl) ?_
    refine p_V (As := [.ref (AD (3 + 3 * (LN q)))]) (rest := [.long ((((((((((((x) * (31)) + ((nI (LN q)).toInt64)) * (31)) + (((EE q).2.1).toInt64)) * (31)) + (((EE q).2.2.2.2.2.2.1).toInt64)) * (31)) + ((bI (ftD LL EE LN q)).toInt64)) * (31)) + ((acF (toC (EE q).2.2.2.1 ((LL (LN q)).2.2) ((LL (LN q)).1) (EE q).2.2.2.2.2.2.2) 0 8).toInt64)) * (31))]) S (c_X0_firstTornBlock l g (AD (39 + 2 * q)) (AD (40 + 2 * q)) (EE q).1 (EE q).2.1 (EE q).2.2.1 (EE q).2.2.2.1 (EE q).2.2.2.2.1 (EE q).2.2.2.2.2.1 (EE q).2.2.2.2.2.2.1 (EE q).2.2.2.2.2.2.2 (hEE q (by omega)).2.2.1 (hEE q (by omega)).2.2.2 (AD (3 + 3 * (LN q))) (AD (4 + 3 * (LN q))) (AD (5 + 3 * (LN q))) ((LL (LN q)).1) ((LL (LN q)).2.1) ((LL (LN q)).2.2) (hLL _ (by omega))) (cwV 1 hts gX2_withEnvelope_X0_firstTornBlock rfl rfl rfl (by decide +kernel) ⟨Nat.le_of_ble_eq_true rfl, Nat.le_of_ble_eq_true rfl⟩) hK (va_recv hK.1 hE1 (ci := 0) (q0 := 0) rfl rfl) (⟨hE1, hL2⟩) rfl hl.1 rfl (Nat.le_of_ble_eq_true rfl) dX2_withEnvelope_105 ⟨Nat.le_of_ble_eq_true rfl, Nat.le_of_ble_eq_true rfl⟩ ?_
    refine lv_i2l (v := (fsF (toC (EE q).2.2.2.1 ((LL (LN q)).2.2) ((LL (LN q)).1) (EE q).2.2.2.2.2.2.2) 8 0).toInt64) hx hb dX2_withEnvelope_108 rfl ?_
    refine lv_ladd hx hb dX2_withEnvelope_109 ?_
    refine lv_lstore (lv' := [(5, .long (((((((((((((x) * (31)) + ((nI (LN q)).toInt64)) * (31)) + (((EE q).2.1).toInt64)) * (31)) + (((EE q).2.2.2.2.2.2.1).toInt64)) * (31)) + ((bI (ftD LL EE LN q)).toInt64)) * (31)) + ((acF (toC (EE q).2.2.2.1 ((LL (LN q)).2.2) ((LL (LN q)).1) (EE q).2.2.2.2.2.2.2) 0 8).toInt64)) * (31)) + ((fsF (toC (EE q).2.2.2.1 ((LL (LN q)).2.2) ((LL (LN q)).1) (EE q).2.2.2.2.2.2.2) 8 0).toInt64))), (4, .ref (AD (3 + 3 * (LN q)))), (0, .ref (AD 0)), (1, .long (x)), (3, .ref (AD (39 + 2 * q)))]) hx hb dX2_withEnvelope_110 hl (by decide) rfl (fun ls hl => ?_)
    refine lv_lload hx hb dX2_withEnvelope_112 (lv_at hl 0 rfl) ?_
    refine lv_ldc2 (v := 31) hx hb hown kl167 dX2_withEnvelope_114 ?_
    refine lv_lmul hx hb dX2_withEnvelope_117 ?_
    refine lv_aload_n hx hb dX2_withEnvelope_118 rfl (lv_at hl 4 rfl) ?_
    refine lv_aload hx hb dX2_withEnvelope_119 (lv_at hl 1 rfl) ?_
    refine p_V (As := [.ref (AD (3 + 3 * (LN q)))]) (rest := [.long ((((((((((((((x) * (31)) + ((nI (LN q)).toInt64)) * (31)) + (((EE q).2.1).toInt64)) * (31)) + (((EE q).2.2.2.2.2.2.1).toInt64)) * (31)) + ((bI (ftD LL EE LN q)).toInt64)) * (31)) + ((acF (toC (EE q).2.2.2.1 ((LL (LN q)).2.2) ((LL (LN q)).1) (EE q).2.2.2.2.2.2.2) 0 8).toInt64)) * (31)) + ((fsF (toC (EE q).2.2.2.1 ((LL (LN q)).2.2) ((LL (LN q)).1) (EE q).2.2.2.2.2.2.2) 8 0).toInt64)) * (31))]) S (c_X0_placeOfChange l g (AD (39 + 2 * q)) (AD (40 + 2 * q)) (EE q).1 (EE q).2.1 (EE q).2.2.1 (EE q).2.2.2.1 (EE q).2.2.2.2.1 (EE q).2.2.2.2.2.1 (EE q).2.2.2.2.2.2.1 (EE q).2.2.2.2.2.2.2 (hEE q (by omega)).2.2.1 (hEE q (by omega)).2.2.2 (AD (3 + 3 * (LN q))) (AD (4 + 3 * (LN q))) (AD (5 + 3 * (LN q))) ((LL (LN q)).1) ((LL (LN q)).2.1) ((LL (LN q)).2.2) (hLL _ (by omega))) (cwV 1 hts gX2_withEnvelope_X0_placeOfChange rfl rfl rfl (by decide +kernel) ⟨Nat.le_of_ble_eq_true rfl, Nat.le_of_ble_eq_true rfl⟩) hK (va_recv hK.1 hE1 (ci := 0) (q0 := 0) rfl rfl) (⟨hE1, hL2⟩) rfl hl.1 rfl (Nat.le_of_ble_eq_true rfl) dX2_withEnvelope_121 ⟨Nat.le_of_ble_eq_true rfl, Nat.le_of_ble_eq_true rfl⟩ ?_
    refine lv_i2l (v := (chC (decide (dgF ((LL (LN q)).1) ((LL (LN q)).2.2) = (EE q).2.1)) ((EE q).2.2.1) ((LL (LN q)).2.2) ((EE q).2.2.2.2.1 - smF ((LL (LN q)).1) ((LL (LN q)).2.2)) ((EE q).2.2.2.2.2.1 - wtF ((LL (LN q)).1) ((LL (LN q)).2.2)) ((LL (LN q)).1)).toInt64) hx hb dX2_withEnvelope_124 rfl ?_
    refine lv_ladd hx hb dX2_withEnvelope_125 ?_
    refine lv_lstore (lv' := [(5, .long (((((((((((((((x) * (31)) + ((nI (LN q)).toInt64)) * (31)) + (((EE q).2.1).toInt64)) * (31)) + (((EE q).2.2.2.2.2.2.1).toInt64)) * (31)) + ((bI (ftD LL EE LN q)).toInt64)) * (31)) + ((acF (toC (EE q).2.2.2.1 ((LL (LN q)).2.2) ((LL (LN q)).1) (EE q).2.2.2.2.2.2.2) 0 8).toInt64)) * (31)) + ((fsF (toC (EE q).2.2.2.1 ((LL (LN q)).2.2) ((LL (LN q)).1) (EE q).2.2.2.2.2.2.2) 8 0).toInt64)) * (31)) + ((chC (decide (dgF ((LL (LN q)).1) ((LL (LN q)).2.2) = (EE q).2.1)) ((EE q).2.2.1) ((LL (LN q)).2.2) ((EE q).2.2.2.2.1 - smF ((LL (LN q)).1) ((LL (LN q)).2.2)) ((EE q).2.2.2.2.2.1 - wtF ((LL (LN q)).1) ((LL (LN q)).2.2)) ((LL (LN q)).1)).toInt64))), (4, .ref (AD (3 + 3 * (LN q)))), (0, .ref (AD 0)), (1, .long (x)), (3, .ref (AD (39 + 2 * q)))]) hx hb dX2_withEnvelope_126 hl (by decide) rfl (fun ls hl => ?_)
    refine lv_lload hx hb dX2_withEnvelope_128 (lv_at hl 0 rfl) ?_
    refine lv_toJ (z := weJ x LL EE LN q) (rfl) ?_
    exact hret _ _ dX2_withEnvelope_130

set_option maxHeartbeats 4000000 in
set_option maxRecDepth 100000 in
/-- digest -/
theorem c_X2_digest (l : Launch) (g : gT) (AD : Nat → Nat) (LL : Nat → ltT) (EE : Nat → evT) (LN : Nat → Nat) (lc ec : Nat) (hlc : lc ≤ 12) (hec : ec ≤ 24) (hLL : ∀ i, i < 12 → (LL i).2.2 ≤ 40) (hEE : ∀ q, q < ec → (EE q).1 = nI (LN q) ∧ LN q < lc ∧ (EE q).2.2.1 ≤ 40 ∧ (EE q).2.2.2.1 ≤ 8) : wM g l yX2_digest wsX2_digest { frames := 4, cells := 0, slots := 0, locals := 97 } [.ref (AD 0)] (wsD g AD LL EE lc ec) (some (.long (djE LL EE LN (djL LL (dj0 LL EE LN lc ec) lc) ec))) (wsD g AD (dgL LL lc) EE lc ec) := by
  refine wr_ofJ (cc := cX2_digest) (maxL := 4) (by decide) rfl (Nat.le_of_ble_eq_true rfl) ?_
  intro p e s m args below meth c H0 ls A Q hx hb hml hts hown hK hP hD hS hl hret
  have hl : lv_has ls 4 [(0, .ref (AD 0))] := hl
  have S : CallFix p m c cX2_digest 4 s args wsX2_digest RX2 := ⟨hx, hb, hml, hown, hts⟩
  have hLd : ∀ i, i < 12 → (dgL LL lc i).2.2 ≤ 40 := fun i hi => by rw [dgL_n]; exact hLL i hi
  have iX2 : ∀ w ∈ u_ws RX2 TX2 4, w ∈ wsX2_digest := by decide +kernel
  have f11 := hts (.fieldLink RX2 11 "LetterSeals" "letterRow" "[LLetterSeals$Letter;") (by decide +kernel)
  have f17 := hts (.fieldLink RX2 17 "LetterSeals" "envelopeRow" "[LLetterSeals$Envelope;") (by decide +kernel)
  have f26 := hts (.fieldLink RX2 26 "LetterSeals" "letterCount" "I") (by decide +kernel)
  have f84 := hts (.fieldLink RX2 84 "LetterSeals" "envelopeCount" "I") (by decide +kernel)
  have kl165 := hts (.constantLong RX2 165 (1979)) (by decide +kernel)
  have kl167 := hts (.constantLong RX2 167 (31)) (by decide +kernel)
  obtain ⟨H, eH⟩ : ∃ H : Heap, H = H0 := ⟨_, rfl⟩
  rw [← eH] at hP ⊢
  have hS : va_S A H0 H [] := by rw [eH]; exact hS
  refine lv_ldc2 (v := 1979) hx hb hown kl165 dX2_digest_0 ?_
  refine lv_lstore_n (lv' := [(1, .long (1979)), (0, .ref (AD 0))]) hx hb dX2_digest_3 rfl hl (by decide) rfl (fun ls hl => ?_)
  refine lv_lload_n hx hb dX2_digest_4 rfl (lv_at hl 0 rfl) ?_
  refine lv_ldc2 (v := 31) hx hb hown kl167 dX2_digest_5 ?_
  refine lv_lmul hx hb dX2_digest_8 ?_
  refine lv_aload_n hx hb dX2_digest_9 rfl (lv_at hl 1 rfl) ?_
  refine va_get (D := gD g) (ci := 2) (v := .int (nI (lc))) (C := RX2) (T := TX2) (N := 4) hx hb hts iX2 hown hK.1 hP 0 dk_me rfl 2 (by decide) f26 (fun _ h9 => h9) rfl dX2_digest_10 ?_
  refine lv_i2l (v := (nI (lc)).toInt64) hx hb dX2_digest_13 rfl ?_
  refine lv_ladd hx hb dX2_digest_14 ?_
  refine lv_lstore_n (lv' := [(1, .long (((1979) * (31)) + ((nI (lc)).toInt64))), (0, .ref (AD 0))]) hx hb dX2_digest_15 rfl hl (by decide) rfl (fun ls hl => ?_)
  refine lv_lload_n hx hb dX2_digest_16 rfl (lv_at hl 0 rfl) ?_
  refine lv_ldc2 (v := 31) hx hb hown kl167 dX2_digest_17 ?_
  refine lv_lmul hx hb dX2_digest_20 ?_
  refine lv_aload_n hx hb dX2_digest_21 rfl (lv_at hl 1 rfl) ?_
  refine va_get (D := gD g) (ci := 2) (v := .int (nI (ec))) (C := RX2) (T := TX2) (N := 4) hx hb hts iX2 hown hK.1 hP 0 dk_me rfl 3 (by decide) f84 (fun _ h9 => h9) rfl dX2_digest_22 ?_
  refine lv_i2l (v := (nI (ec)).toInt64) hx hb dX2_digest_25 rfl ?_
  refine lv_ladd hx hb dX2_digest_26 ?_
  refine lv_lstore_n (lv' := [(1, .long (((((1979) * (31)) + ((nI (lc)).toInt64)) * (31)) + ((nI (ec)).toInt64))), (0, .ref (AD 0))]) hx hb dX2_digest_27 rfl hl (by decide) rfl (fun ls hl => ?_)
  refine lv_lload_n hx hb dX2_digest_28 rfl (lv_at hl 0 rfl) ?_
  refine lv_ldc2 (v := 31) hx hb hown kl167 dX2_digest_29 ?_
  refine lv_lmul hx hb dX2_digest_32 ?_
  refine lv_aload_n hx hb dX2_digest_33 rfl (lv_at hl 1 rfl) ?_
  refine p_V (As := []) (rest := [.long ((((((1979) * (31)) + ((nI (lc)).toInt64)) * (31)) + ((nI (ec)).toInt64)) * (31))]) S (c_X2_doubles l g AD LL EE LN lc ec hlc hec hLL hEE ) (cwV 0 hts gX2_digest_X2_doubles rfl rfl rfl (by decide +kernel) ⟨Nat.le_of_ble_eq_true rfl, Nat.le_of_ble_eq_true rfl⟩) hK (va_recv hK.1 hP (ci := 2) (q0 := 0) rfl dk_me) (hP) rfl hl.1 rfl (Nat.le_of_ble_eq_true rfl) dX2_digest_34 ⟨Nat.le_of_ble_eq_true rfl, Nat.le_of_ble_eq_true rfl⟩ ?_
  refine lv_i2l (v := (prC (dbD LL) lc lc).toInt64) hx hb dX2_digest_37 rfl ?_
  refine lv_ladd hx hb dX2_digest_38 ?_
  refine lv_lstore_n (lv' := [(1, .long (((((((1979) * (31)) + ((nI (lc)).toInt64)) * (31)) + ((nI (ec)).toInt64)) * (31)) + ((prC (dbD LL) lc lc).toInt64))), (0, .ref (AD 0))]) hx hb dX2_digest_39 rfl hl (by decide) rfl (fun ls hl => ?_)
  refine lv_lload_n hx hb dX2_digest_40 rfl (lv_at hl 0 rfl) ?_
  refine lv_ldc2 (v := 31) hx hb hown kl167 dX2_digest_41 ?_
  refine lv_lmul hx hb dX2_digest_44 ?_
  refine lv_aload_n hx hb dX2_digest_45 rfl (lv_at hl 1 rfl) ?_
  refine p_V (As := []) (rest := [.long ((((((((1979) * (31)) + ((nI (lc)).toInt64)) * (31)) + ((nI (ec)).toInt64)) * (31)) + ((prC (dbD LL) lc lc).toInt64)) * (31))]) S (c_X2_firstBroken l g AD LL EE LN lc ec hlc hec hLL hEE ) (cwV 0 hts gX2_digest_X2_firstBroken rfl rfl rfl (by decide +kernel) ⟨Nat.le_of_ble_eq_true rfl, Nat.le_of_ble_eq_true rfl⟩) hK (va_recv hK.1 hP (ci := 2) (q0 := 0) rfl dk_me) (hP) rfl hl.1 rfl (Nat.le_of_ble_eq_true rfl) dX2_digest_46 ⟨Nat.le_of_ble_eq_true rfl, Nat.le_of_ble_eq_true rfl⟩ ?_
  refine lv_i2l (v := (fsF (fun q => !ftD LL EE LN q) ec 0).toInt64) hx hb dX2_digest_49 rfl ?_
  refine lv_ladd hx hb dX2_digest_50 ?_
  refine lv_toJ (z := dj0 LL EE LN lc ec) (rfl) ?_
  refine lv_lstore_n (lv' := [(1, .long (dj0 LL EE LN lc ec)), (0, .ref (AD 0))]) hx hb dX2_digest_51 rfl hl (by decide) rfl (fun ls hl => ?_)
  refine lv_iconst (v := nI (0)) hx hb dX2_digest_52 (by decide +kernel) ?_
  refine lv_istore_n (lv' := [(3, .int (nI (0))), (1, .long (dj0 LL EE LN lc ec)), (0, .ref (AD 0))]) hx hb dX2_digest_53 rfl hl (by decide) rfl (fun ls hl => ?_)
  have L54 : ∀ (k1 i : Nat) (H : Heap) (locs : List Loc) (ls : Array Slot), lc - i < k1 → i ≤ lc → va_P (gD g) vwCl (wsD g AD (dgL LL i) EE lc ec) H → va_D A (wsD g AD (dgL LL i) EE lc ec) → va_S A H0 H locs → lv_has ls 4 [(3, .int (nI i)), (1, .long (djL LL (dj0 LL EE LN lc ec) i)), (0, .ref (AD 0))] → W p l e { frames := 4, cells := 0, slots := 0, locals := 97 } s m args below meth c H locs 0 0 Q (F0 m 54 ls []) := by
    intro k1
    induction k1 with
    | zero => intro i H locs ls hFu; exact absurd hFu (Nat.not_lt_zero _)
    | succ k1 ih1 =>
      intro i H locs ls hFu hLe hP hD hS hl
      refine lv_iload_n hx hb dX2_digest_54 rfl (lv_at hl 0 rfl) ?_
      refine lv_aload_n hx hb dX2_digest_55 rfl (lv_at hl 2 rfl) ?_
      refine va_get (D := gD g) (ci := 2) (v := .int (nI (lc))) (C := RX2) (T := TX2) (N := 4) hx hb hts iX2 hown hK.1 hP 0 dk_me rfl 2 (by decide) f26 (fun _ h9 => h9) rfl dX2_digest_56 ?_
      refine br_ge (a := i) (b := lc) (tgt := 79) hx hb (by omega) (by omega) dX2_digest_59 (by decide) (fun c59 => ?_) (fun c59 => ?_)
      · have ei : i = lc := by omega
        rw [ei] at hP hD hl
        refine lv_iconst (v := nI (0)) hx hb dX2_digest_79 (by decide +kernel) ?_
        refine lv_istore_n (lv' := [(3, .int (nI (0))), (1, .long (djL LL (dj0 LL EE LN lc ec) lc)), (0, .ref (AD 0))]) hx hb dX2_digest_80 rfl hl (by decide) rfl (fun ls hl => ?_)
        have L81 : ∀ (k2 i : Nat) (ls : Array Slot), ec - i < k2 → i ≤ ec → lv_has ls 4 [(3, .int (nI i)), (1, .long (djE LL EE LN (djL LL (dj0 LL EE LN lc ec) lc) i)), (0, .ref (AD 0))] → W p l e { frames := 4, cells := 0, slots := 0, locals := 97 } s m args below meth c H locs 0 0 Q (F0 m 81 ls []) := by
          intro k2
          induction k2 with
          | zero => intro i ls hFu; exact absurd hFu (Nat.not_lt_zero _)
          | succ k2 ih2 =>
            intro i ls hFu hLe hl
            refine lv_iload_n hx hb dX2_digest_81 rfl (lv_at hl 0 rfl) ?_
            refine lv_aload_n hx hb dX2_digest_82 rfl (lv_at hl 2 rfl) ?_
            refine va_get (D := gD g) (ci := 2) (v := .int (nI (ec))) (C := RX2) (T := TX2) (N := 4) hx hb hts iX2 hown hK.1 hP 0 dk_me rfl 3 (by decide) f84 (fun _ h9 => h9) rfl dX2_digest_83 ?_
            refine br_ge (a := i) (b := ec) (tgt := 107) hx hb (by omega) (by omega) dX2_digest_86 (by decide) (fun c86 => ?_) (fun c86 => ?_)
            · have e_i : i = ec := by omega
              rw [e_i] at hl
              refine lv_lload_n hx hb dX2_digest_107 rfl (lv_at hl 1 rfl) ?_
              exact hret _ _ _ _ hP hS dX2_digest_108
            · refine lv_aload_n hx hb dX2_digest_89 rfl (lv_at hl 2 rfl) ?_
              refine lv_lload_n hx hb dX2_digest_90 rfl (lv_at hl 1 rfl) ?_
              refine lv_aload_n hx hb dX2_digest_91 rfl (lv_at hl 2 rfl) ?_
              refine va_get (D := gD g) (ci := 2) (v := .ref (AD 2)) (C := RX2) (T := TX2) (N := 4) hx hb hts iX2 hown hK.1 hP 0 dk_me rfl 1 (by decide) f17 (fun _ h9 => h9) rfl dX2_digest_92 ?_
              refine lv_iload_n hx hb dX2_digest_95 rfl (lv_at hl 0 rfl) ?_
              refine ld_Q (C := "LetterSeals$Envelope") (k := i) (n := 24) (f := fun q => some (AD (39 + 2 * q))) (r := AD (39 + 2 * i)) hx hb hK.1 hP 2 2 dk_er rfl (by omega) (by decide) rfl dX2_digest_96 ?_
              refine p_V (As := [.long (djE LL EE LN (djL LL (dj0 LL EE LN lc ec) lc) i), .ref (AD (39 + 2 * i))]) (rest := []) S (c_X2_withEnvelope l g AD (dgL LL lc) EE LN lc ec hlc hec hLd hEE (djE LL EE LN (djL LL (dj0 LL EE LN lc ec) lc) i) i (by omega)) (cwV 2 hts gX2_digest_X2_withEnvelope rfl rfl rfl (by decide +kernel) ⟨Nat.le_of_ble_eq_true rfl, Nat.le_of_ble_eq_true rfl⟩) hK (va_recv hK.1 hP (ci := 2) (q0 := 0) rfl dk_me) (hP) rfl hl.1 rfl (Nat.le_of_ble_eq_true rfl) dX2_digest_97 ⟨Nat.le_of_ble_eq_true rfl, Nat.le_of_ble_eq_true rfl⟩ ?_
              refine lv_toJ (z := djE LL EE LN (djL LL (dj0 LL EE LN lc ec) lc) (i + 1)) (weJ_dg _ _ _ _ _ _) ?_
              refine lv_lstore_n (lv' := [(1, .long (djE LL EE LN (djL LL (dj0 LL EE LN lc ec) lc) (i + 1))), (3, .int (nI i)), (0, .ref (AD 0))]) hx hb dX2_digest_100 rfl hl (by decide) rfl (fun ls hl => ?_)
              refine lv_iinc (v := nI (i + 1)) (lv' := [(3, .int (nI (i + 1))), (1, .long (djE LL EE LN (djL LL (dj0 LL EE LN lc ec) lc) (i + 1))), (0, .ref (AD 0))]) hx hb dX2_digest_101 hl (k := 1) rfl (nI_1 _) (by decide) rfl (fun ls hl => ?_)
              refine lv_goto (tgt := 81) hx hb dX2_digest_104 (by decide) ?_
              exact ih2 (i + 1) _ (by omega) (by omega) (lv_sub hl [0, 1, 2] rfl)
        exact L81 (ec + 1) (0) _ (by omega) (by omega) (lv_sub hl [0, 1, 2] rfl)
      · have hPi : va_P (gD g) vwCl (ltX g AD i (LL i)) H := by
          have h9 := dk_letter hP (i := i) (by omega)
          rw [dgL_at] at h9
          exact h9
        have hDi : va_D A (ltX g AD i (LL i)) := by
          have h9 := dk_letterD hD (i := i) (by omega)
          rw [dgL_at] at h9
          exact h9
        refine lv_lload_n hx hb dX2_digest_62 rfl (lv_at hl 1 rfl) ?_
        refine lv_aload_n hx hb dX2_digest_63 rfl (lv_at hl 2 rfl) ?_
        refine va_get (D := gD g) (ci := 2) (v := .ref (AD 1)) (C := RX2) (T := TX2) (N := 4) hx hb hts iX2 hown hK.1 hP 0 dk_me rfl 0 (by decide) f11 (fun _ h9 => h9) rfl dX2_digest_64 ?_
        refine lv_iload_n hx hb dX2_digest_67 rfl (lv_at hl 0 rfl) ?_
        refine ld_Q (C := "LetterSeals$Letter") (k := i) (n := 12) (f := fun i => some (AD (3 + 3 * i))) (r := AD (3 + 3 * i)) hx hb hK.1 hP 1 1 dk_lr rfl (by omega) (by decide) rfl dX2_digest_68 ?_
        refine w_S (As := [.long (djL LL (dj0 LL EE LN lc ec) i), .ref (AD (3 + 3 * i))]) (rest := []) S (c_X2_withLetter l g (AD (3 + 3 * i)) (AD (4 + 3 * i)) (AD (5 + 3 * i)) (LL i).1 (LL i).2.1 (LL i).2.2 (hLL i (by omega)) (djL LL (dj0 LL EE LN lc ec) i)) (va_cwS 2 hts gX2_digest_X2_withLetter rfl rfl rfl (by decide +kernel) ⟨Nat.le_of_ble_eq_true rfl, Nat.le_of_ble_eq_true rfl⟩) hK  (hPi) (hDi.weaken (fun _ _ _ _ => trivial)) hS (wA_of hDi) rfl hl.1 rfl (Nat.le_of_ble_eq_true rfl) dX2_digest_69 ⟨Nat.le_of_ble_eq_true rfl, Nat.le_of_ble_eq_true rfl⟩ (fun H locs hP1 hz1 hk1 hS => ?_)
        have hP : va_P (gD g) vwCl (wsD g AD (dgL LL (i + 1)) EE lc ec) H := by
          rw [← dgL_up]
          exact dk_upL hP hD (i := i) (u := (dgU (LL i))) (by omega) hP1 (fun _ h9 => ltX_wA h9) hk1
        have hD : va_D A (wsD g AD (dgL LL (i + 1)) EE lc ec) := dk_Dsame hD
        refine lv_lstore_n (lv' := [(1, .long (djL LL (dj0 LL EE LN lc ec) (i + 1))), (3, .int (nI i)), (0, .ref (AD 0))]) hx hb dX2_digest_72 rfl hl (by decide) rfl (fun ls hl => ?_)
        refine lv_iinc (v := nI (i + 1)) (lv' := [(3, .int (nI (i + 1))), (1, .long (djL LL (dj0 LL EE LN lc ec) (i + 1))), (0, .ref (AD 0))]) hx hb dX2_digest_73 hl (k := 1) rfl (nI_1 _) (by decide) rfl (fun ls hl => ?_)
        refine lv_goto (tgt := 54) hx hb dX2_digest_76 (by decide) ?_
        exact ih1 (i + 1) _ _ _ (by omega) (by omega) hP hD hS (lv_sub hl [0, 1, 2] rfl)
  exact L54 (lc + 1) (0) _ _ _ (by omega) (by omega) (by rw [dgL_0]; exact hP) (dk_Dsame hD) hS (lv_sub hl [0, 1, 2] rfl)
