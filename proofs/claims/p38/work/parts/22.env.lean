/-- an envelope's two cells -/
abbrev evW (g : gT) (q y : Nat) (ln dg : Int32) (sc bc : Nat) (ss wg sl : Int32) (bs : Nat → Int32) : va_W := [(q, .inr (0, [.ref y, .int ln, .int dg, .int (nI sc), .int (nI bc), .int ss, .int wg, .int sl])), (y, .inl (gI g, 8, .inl bs))]

set_option maxHeartbeats 4000000 in
set_option maxRecDepth 100000 in
/-- fits(now) -/
theorem c_X0_fits (l : Launch) (g : gT) (q y : Nat) (ln dg : Int32) (sc bc : Nat) (ss wg sl : Int32) (bs : Nat → Int32) (hsc : sc ≤ 40) (hbc : bc ≤ 8) (h a b : Nat) (f w : Nat → Int32) (n : Nat) (hn : n ≤ 40) : pM g l yX0_fits wsX0_fits { frames := 1, cells := 0, slots := 0, locals := 22 } [.ref (q), .ref (h)] (fun H => va_P (gD g) vwCl (evW g q y ln dg sc bc ss wg sl bs) H ∧ va_P (gD g) vwCl (ltW g h a b f w n) H) (.int (bI (decide (dgF f n = dg)))) := by
  refine pu_ofZ (cc := cX0_fits) (maxL := 2) (bI_n _) (by decide) rfl (Nat.le_of_ble_eq_true rfl) ?_
  intro p e s m args below meth c H ls Q hx hb hml hts hown hK hP hl hret
  have hl : lv_has ls 2 [(0, .ref (q)), (1, .ref (h))] := hl
  have S : CallFix p m c cX0_fits 2 s args wsX0_fits RX0 := ⟨hx, hb, hml, hown, hts⟩
  have iX0 : ∀ w ∈ u_ws RX0 TX0 8, w ∈ wsX0_fits := by decide +kernel
  have f25 := hts (.fieldLink RX0 25 "LetterSeals$Envelope" "digest" "I") (by decide +kernel)
  refine lv_aload_n hx hb dX0_fits_0 rfl (lv_at hl 1 rfl) ?_
  refine p_V (As := []) (rest := []) S (c_X1_signDigest l g h a b f w n hn) (cwV 0 hts gX0_fits_X1_signDigest rfl rfl rfl (by decide +kernel) ⟨Nat.le_of_ble_eq_true rfl, Nat.le_of_ble_eq_true rfl⟩) hK (va_recv hK.1 hP.2 (ci := 1) (q0 := 0) rfl rfl) (hP.2) rfl hl.1 rfl (Nat.le_of_ble_eq_true rfl) dX0_fits_1 ⟨Nat.le_of_ble_eq_true rfl, Nat.le_of_ble_eq_true rfl⟩ ?_
  refine lv_aload_n hx hb dX0_fits_4 rfl (lv_at hl 0 rfl) ?_
  refine va_get (D := gD g) (ci := 0) (v := .int (dg)) (C := RX0) (T := TX0) (N := 8) hx hb hts iX0 hown hK.1 hP.1 0 rfl rfl 2 (by decide) f25 (fun _ h9 => h9) rfl dX0_fits_5 ?_
  refine lv_icmp_ne (tgt := 15) hx hb dX0_fits_8 (by decide) (fun c8 => ?_) (fun c8 => ?_)
  · refine lv_iconst (v := bI false) hx hb dX0_fits_15 (by decide +kernel) ?_
    refine lv_toI (z := bI (decide (dgF f n = dg))) (by first | (rw [decide_eq_true c8]; done) | (rw [decide_eq_false c8]; done)) ?_
    exact hret _ _ dX0_fits_16
  · refine lv_iconst (v := bI true) hx hb dX0_fits_11 (by decide +kernel) ?_
    refine lv_goto (tgt := 16) hx hb dX0_fits_12 (by decide) ?_
    refine lv_toI (z := bI (decide (dgF f n = dg))) (by first | (rw [decide_eq_true c8]; done) | (rw [decide_eq_false c8]; done)) ?_
    exact hret _ _ dX0_fits_16

set_option maxHeartbeats 4000000 in
set_option maxRecDepth 100000 in
/-- lostInSum(now) -/
theorem c_X0_lostInSum (l : Launch) (g : gT) (q y : Nat) (ln dg : Int32) (sc bc : Nat) (ss wg sl : Int32) (bs : Nat → Int32) (hsc : sc ≤ 40) (hbc : bc ≤ 8) (h a b : Nat) (f w : Nat → Int32) (n : Nat) (hn : n ≤ 40) : pM g l yX0_lostInSum wsX0_lostInSum { frames := 1, cells := 0, slots := 0, locals := 22 } [.ref (q), .ref (h)] (fun H => va_P (gD g) vwCl (evW g q y ln dg sc bc ss wg sl bs) H ∧ va_P (gD g) vwCl (ltW g h a b f w n) H) (.int (ss - smF f n)) := by
  refine pu_ofI (cc := cX0_lostInSum) (maxL := 2) (by decide) rfl (Nat.le_of_ble_eq_true rfl) ?_
  intro p e s m args below meth c H ls Q hx hb hml hts hown hK hP hl hret
  have hl : lv_has ls 2 [(0, .ref (q)), (1, .ref (h))] := hl
  have S : CallFix p m c cX0_lostInSum 2 s args wsX0_lostInSum RX0 := ⟨hx, hb, hml, hown, hts⟩
  have iX0 : ∀ w ∈ u_ws RX0 TX0 8, w ∈ wsX0_lostInSum := by decide +kernel
  have f46 := hts (.fieldLink RX0 46 "LetterSeals$Envelope" "signSum" "I") (by decide +kernel)
  refine lv_aload_n hx hb dX0_lostInSum_0 rfl (lv_at hl 0 rfl) ?_
  refine va_get (D := gD g) (ci := 0) (v := .int (ss)) (C := RX0) (T := TX0) (N := 8) hx hb hts iX0 hown hK.1 hP.1 0 rfl rfl 5 (by decide) f46 (fun _ h9 => h9) rfl dX0_lostInSum_1 ?_
  refine lv_aload_n hx hb dX0_lostInSum_4 rfl (lv_at hl 1 rfl) ?_
  refine p_V (As := []) (rest := [.int (ss)]) S (c_X1_signSum l g h a b f w n hn) (cwV 0 hts gX0_lostInSum_X1_signSum rfl rfl rfl (by decide +kernel) ⟨Nat.le_of_ble_eq_true rfl, Nat.le_of_ble_eq_true rfl⟩) hK (va_recv hK.1 hP.2 (ci := 1) (q0 := 0) rfl rfl) (hP.2) rfl hl.1 rfl (Nat.le_of_ble_eq_true rfl) dX0_lostInSum_5 ⟨Nat.le_of_ble_eq_true rfl, Nat.le_of_ble_eq_true rfl⟩ ?_
  refine lv_isub hx hb dX0_lostInSum_8 ?_
  exact hret _ _ dX0_lostInSum_9

set_option maxHeartbeats 4000000 in
set_option maxRecDepth 100000 in
/-- isTorn(now, u) -/
theorem c_X0_isTorn (l : Launch) (g : gT) (q y : Nat) (ln dg : Int32) (sc bc : Nat) (ss wg sl : Int32) (bs : Nat → Int32) (hsc : sc ≤ 40) (hbc : bc ≤ 8) (h a b : Nat) (f w : Nat → Int32) (n : Nat) (hn : n ≤ 40) (u : Nat) (hu : u < 8) : pM g l yX0_isTorn wsX0_isTorn { frames := 1, cells := 0, slots := 0, locals := 24 } [.ref (q), .ref (h), .int (nI u)] (fun H => va_P (gD g) vwCl (evW g q y ln dg sc bc ss wg sl bs) H ∧ va_P (gD g) vwCl (ltW g h a b f w n) H) (.int (bI (toC bc n f bs u))) := by
  refine pu_ofZ (cc := cX0_isTorn) (maxL := 5) (bI_n _) (by decide) rfl (Nat.le_of_ble_eq_true rfl) ?_
  intro p e s m args below meth c H ls Q hx hb hml hts hown hK hP hl hret
  have hl : lv_has ls 5 [(0, .ref (q)), (1, .ref (h)), (2, .int (nI u))] := hl
  have S : CallFix p m c cX0_isTorn 5 s args wsX0_isTorn RX0 := ⟨hx, hb, hml, hown, hts⟩
  have iX0 : ∀ w ∈ u_ws RX0 TX0 8, w ∈ wsX0_isTorn := by decide +kernel
  have f9 := hts (.fieldLink RX0 9 "LetterSeals$Envelope" "blockSums" "[I") (by decide +kernel)
  have f37 := hts (.fieldLink RX0 37 "LetterSeals$Envelope" "blockCount" "I") (by decide +kernel)
  refine lv_iload_n hx hb dX0_isTorn_0 rfl (lv_at hl 2 rfl) ?_
  refine lv_aload_n hx hb dX0_isTorn_1 rfl (lv_at hl 0 rfl) ?_
  refine va_get (D := gD g) (ci := 0) (v := .int (nI bc)) (C := RX0) (T := TX0) (N := 8) hx hb hts iX0 hown hK.1 hP.1 0 rfl rfl 4 (by decide) f37 (fun _ h9 => h9) rfl dX0_isTorn_2 ?_
  refine br_ge (a := u) (b := bc) (tgt := 12) hx hb (by omega) (by omega) dX0_isTorn_5 (by decide) (fun c5 => ?_) (fun c5 => ?_)
  · refine lv_iconst (v := bI false) hx hb dX0_isTorn_12 (by decide +kernel) ?_
    refine lv_istore_n (lv' := [(3, .int (bI false)), (0, .ref (q)), (1, .ref (h)), (2, .int (nI u))]) hx hb dX0_isTorn_13 rfl hl (by decide) rfl (fun ls hl => ?_)
    refine lv_iload_n hx hb dX0_isTorn_14 rfl (lv_at hl 3 rfl) ?_
    refine lv_aload_n hx hb dX0_isTorn_15 rfl (lv_at hl 2 rfl) ?_
    refine p_V (As := []) (rest := [.int (nI u)]) S (c_X1_blockCount l g h a b f w n hn) (cwV 0 hts gX0_isTorn_X1_blockCount rfl rfl rfl (by decide +kernel) ⟨Nat.le_of_ble_eq_true rfl, Nat.le_of_ble_eq_true rfl⟩) hK (va_recv hK.1 hP.2 (ci := 1) (q0 := 0) rfl rfl) (hP.2) rfl hl.1 rfl (Nat.le_of_ble_eq_true rfl) dX0_isTorn_16 ⟨Nat.le_of_ble_eq_true rfl, Nat.le_of_ble_eq_true rfl⟩ ?_
    refine br_ge (a := u) (b := (n + 4) / 5) (tgt := 26) hx hb (by omega) (by omega) dX0_isTorn_19 (by decide) (fun c19 => ?_) (fun c19 => ?_)
    · refine lv_iconst (v := bI false) hx hb dX0_isTorn_26 (by decide +kernel) ?_
      refine lv_istore (lv' := [(4, .int (bI false)), (3, .int (bI false)), (0, .ref (q)), (1, .ref (h)), (2, .int (nI u))]) hx hb dX0_isTorn_27 hl (by decide) rfl (fun ls hl => ?_)
      refine lv_iload_n hx hb dX0_isTorn_29 rfl (lv_at hl 1 rfl) ?_
      refine lv_iload hx hb dX0_isTorn_30 (lv_at hl 0 rfl) ?_
      refine lv_icmp_eq (tgt := 37) hx hb dX0_isTorn_32 (by decide) (fun c32 => ?_) (fun c32 => ?_)
      · refine lv_iload hx hb dX0_isTorn_37 (lv_at hl 0 rfl) ?_
        refine br_eqB (tgt := 60) hx hb dX0_isTorn_39 (by decide) (fun c39 => ?_) (fun c39 => ?_)
        · refine lv_iconst (v := bI false) hx hb dX0_isTorn_60 (by decide +kernel) ?_
          refine lv_toI (z := bI (toC bc n f bs u)) (by unfold toC; first | (rw [decide_eq_true c5, decide_eq_false (Nat.not_lt.mpr c19)]; rfl) | (rw [decide_eq_false (Nat.not_lt.mpr c5), decide_eq_true c19]; rfl) | (rw [decide_eq_false (Nat.not_lt.mpr c5), decide_eq_false (Nat.not_lt.mpr c19)]; rfl) | (rw [decide_eq_true c5, decide_eq_true c19, decide_eq_true c53]; rfl) | (rw [decide_eq_true c5, decide_eq_true c19, decide_eq_false (fun z => z c53)]; rfl)) ?_
          exact hret _ _ dX0_isTorn_61
        · exact absurd c39 (by decide)
      · exact absurd rfl c32
    · refine lv_iconst (v := bI true) hx hb dX0_isTorn_22 (by decide +kernel) ?_
      refine lv_goto (tgt := 27) hx hb dX0_isTorn_23 (by decide) ?_
      refine lv_istore (lv' := [(4, .int (bI true)), (3, .int (bI false)), (0, .ref (q)), (1, .ref (h)), (2, .int (nI u))]) hx hb dX0_isTorn_27 hl (by decide) rfl (fun ls hl => ?_)
      refine lv_iload_n hx hb dX0_isTorn_29 rfl (lv_at hl 1 rfl) ?_
      refine lv_iload hx hb dX0_isTorn_30 (lv_at hl 0 rfl) ?_
      refine lv_icmp_eq (tgt := 37) hx hb dX0_isTorn_32 (by decide) (fun c32 => ?_) (fun c32 => ?_)
      · exact absurd c32 (by decide +kernel)
      · refine lv_iconst (v := bI true) hx hb dX0_isTorn_35 (by decide +kernel) ?_
        refine lv_toI (z := bI (toC bc n f bs u)) (by unfold toC; first | (rw [decide_eq_true c5, decide_eq_false (Nat.not_lt.mpr c19)]; rfl) | (rw [decide_eq_false (Nat.not_lt.mpr c5), decide_eq_true c19]; rfl) | (rw [decide_eq_false (Nat.not_lt.mpr c5), decide_eq_false (Nat.not_lt.mpr c19)]; rfl) | (rw [decide_eq_true c5, decide_eq_true c19, decide_eq_true c53]; rfl) | (rw [decide_eq_true c5, decide_eq_true c19, decide_eq_false (fun z => z c53)]; rfl)) ?_
        exact hret _ _ dX0_isTorn_36
  · refine lv_iconst (v := bI true) hx hb dX0_isTorn_8 (by decide +kernel) ?_
    refine lv_goto (tgt := 13) hx hb dX0_isTorn_9 (by decide) ?_
    refine lv_istore_n (lv' := [(3, .int (bI true)), (0, .ref (q)), (1, .ref (h)), (2, .int (nI u))]) hx hb dX0_isTorn_13 rfl hl (by decide) rfl (fun ls hl => ?_)
    refine lv_iload_n hx hb dX0_isTorn_14 rfl (lv_at hl 3 rfl) ?_
    refine lv_aload_n hx hb dX0_isTorn_15 rfl (lv_at hl 2 rfl) ?_
    refine p_V (As := []) (rest := [.int (nI u)]) S (c_X1_blockCount l g h a b f w n hn) (cwV 0 hts gX0_isTorn_X1_blockCount rfl rfl rfl (by decide +kernel) ⟨Nat.le_of_ble_eq_true rfl, Nat.le_of_ble_eq_true rfl⟩) hK (va_recv hK.1 hP.2 (ci := 1) (q0 := 0) rfl rfl) (hP.2) rfl hl.1 rfl (Nat.le_of_ble_eq_true rfl) dX0_isTorn_16 ⟨Nat.le_of_ble_eq_true rfl, Nat.le_of_ble_eq_true rfl⟩ ?_
    refine br_ge (a := u) (b := (n + 4) / 5) (tgt := 26) hx hb (by omega) (by omega) dX0_isTorn_19 (by decide) (fun c19 => ?_) (fun c19 => ?_)
    · refine lv_iconst (v := bI false) hx hb dX0_isTorn_26 (by decide +kernel) ?_
      refine lv_istore (lv' := [(4, .int (bI false)), (3, .int (bI true)), (0, .ref (q)), (1, .ref (h)), (2, .int (nI u))]) hx hb dX0_isTorn_27 hl (by decide) rfl (fun ls hl => ?_)
      refine lv_iload_n hx hb dX0_isTorn_29 rfl (lv_at hl 1 rfl) ?_
      refine lv_iload hx hb dX0_isTorn_30 (lv_at hl 0 rfl) ?_
      refine lv_icmp_eq (tgt := 37) hx hb dX0_isTorn_32 (by decide) (fun c32 => ?_) (fun c32 => ?_)
      · exact absurd c32 (by decide +kernel)
      · refine lv_iconst (v := bI true) hx hb dX0_isTorn_35 (by decide +kernel) ?_
        refine lv_toI (z := bI (toC bc n f bs u)) (by unfold toC; first | (rw [decide_eq_true c5, decide_eq_false (Nat.not_lt.mpr c19)]; rfl) | (rw [decide_eq_false (Nat.not_lt.mpr c5), decide_eq_true c19]; rfl) | (rw [decide_eq_false (Nat.not_lt.mpr c5), decide_eq_false (Nat.not_lt.mpr c19)]; rfl) | (rw [decide_eq_true c5, decide_eq_true c19, decide_eq_true c53]; rfl) | (rw [decide_eq_true c5, decide_eq_true c19, decide_eq_false (fun z => z c53)]; rfl)) ?_
        exact hret _ _ dX0_isTorn_36
    · refine lv_iconst (v := bI true) hx hb dX0_isTorn_22 (by decide +kernel) ?_
      refine lv_goto (tgt := 27) hx hb dX0_isTorn_23 (by decide) ?_
      refine lv_istore (lv' := [(4, .int (bI true)), (3, .int (bI true)), (0, .ref (q)), (1, .ref (h)), (2, .int (nI u))]) hx hb dX0_isTorn_27 hl (by decide) rfl (fun ls hl => ?_)
      refine lv_iload_n hx hb dX0_isTorn_29 rfl (lv_at hl 1 rfl) ?_
      refine lv_iload hx hb dX0_isTorn_30 (lv_at hl 0 rfl) ?_
      refine lv_icmp_eq (tgt := 37) hx hb dX0_isTorn_32 (by decide) (fun c32 => ?_) (fun c32 => ?_)
      · refine lv_iload hx hb dX0_isTorn_37 (lv_at hl 0 rfl) ?_
        refine br_eqB (tgt := 60) hx hb dX0_isTorn_39 (by decide) (fun c39 => ?_) (fun c39 => ?_)
        · exact absurd c39 (by decide)
        · refine lv_aload_n hx hb dX0_isTorn_42 rfl (lv_at hl 3 rfl) ?_
          refine lv_iload_n hx hb dX0_isTorn_43 rfl (lv_at hl 4 rfl) ?_
          refine p_V (As := [.int (nI u)]) (rest := []) S (c_X1_blockSum l g h a b f w n hn u hu) (cwV 1 hts gX0_isTorn_X1_blockSum rfl rfl rfl (by decide +kernel) ⟨Nat.le_of_ble_eq_true rfl, Nat.le_of_ble_eq_true rfl⟩) hK (va_recv hK.1 hP.2 (ci := 1) (q0 := 0) rfl rfl) (hP.2) rfl hl.1 rfl (Nat.le_of_ble_eq_true rfl) dX0_isTorn_44 ⟨Nat.le_of_ble_eq_true rfl, Nat.le_of_ble_eq_true rfl⟩ ?_
          refine lv_aload_n hx hb dX0_isTorn_47 rfl (lv_at hl 2 rfl) ?_
          refine va_get (D := gD g) (ci := 0) (v := .ref (y)) (C := RX0) (T := TX0) (N := 8) hx hb hts iX0 hown hK.1 hP.1 0 rfl rfl 0 (by decide) f9 (fun _ h9 => h9) rfl dX0_isTorn_48 ?_
          refine lv_iload_n hx hb dX0_isTorn_51 rfl (lv_at hl 4 rfl) ?_
          refine ld_I (k := u) (n := 8) (f := bs) hx hb hK.1 hP.1 1 rfl (by omega) (by omega) dX0_isTorn_52 ?_
          refine lv_icmp_eq (tgt := 60) hx hb dX0_isTorn_53 (by decide) (fun c53 => ?_) (fun c53 => ?_)
          · refine lv_iconst (v := bI false) hx hb dX0_isTorn_60 (by decide +kernel) ?_
            refine lv_toI (z := bI (toC bc n f bs u)) (by unfold toC; first | (rw [decide_eq_true c5, decide_eq_false (Nat.not_lt.mpr c19)]; rfl) | (rw [decide_eq_false (Nat.not_lt.mpr c5), decide_eq_true c19]; rfl) | (rw [decide_eq_false (Nat.not_lt.mpr c5), decide_eq_false (Nat.not_lt.mpr c19)]; rfl) | (rw [decide_eq_true c5, decide_eq_true c19, decide_eq_true c53]; rfl) | (rw [decide_eq_true c5, decide_eq_true c19, decide_eq_false (fun z => z c53)]; rfl)) ?_
            exact hret _ _ dX0_isTorn_61
          · refine lv_iconst (v := bI true) hx hb dX0_isTorn_56 (by decide +kernel) ?_
            refine lv_goto (tgt := 61) hx hb dX0_isTorn_57 (by decide) ?_
            refine lv_toI (z := bI (toC bc n f bs u)) (by unfold toC; first | (rw [decide_eq_true c5, decide_eq_false (Nat.not_lt.mpr c19)]; rfl) | (rw [decide_eq_false (Nat.not_lt.mpr c5), decide_eq_true c19]; rfl) | (rw [decide_eq_false (Nat.not_lt.mpr c5), decide_eq_false (Nat.not_lt.mpr c19)]; rfl) | (rw [decide_eq_true c5, decide_eq_true c19, decide_eq_true c53]; rfl) | (rw [decide_eq_true c5, decide_eq_true c19, decide_eq_false (fun z => z c53)]; rfl)) ?_
            exact hret _ _ dX0_isTorn_61
      · exact absurd rfl c32

set_option maxHeartbeats 4000000 in
set_option maxRecDepth 100000 in
/-- tornBlockCount(now) -/
theorem c_X0_tornBlockCount (l : Launch) (g : gT) (q y : Nat) (ln dg : Int32) (sc bc : Nat) (ss wg sl : Int32) (bs : Nat → Int32) (hsc : sc ≤ 40) (hbc : bc ≤ 8) (h a b : Nat) (f w : Nat → Int32) (n : Nat) (hn : n ≤ 40) : pM g l yX0_tornBlockCount wsX0_tornBlockCount { frames := 2, cells := 0, slots := 0, locals := 48 } [.ref (q), .ref (h)] (fun H => va_P (gD g) vwCl (evW g q y ln dg sc bc ss wg sl bs) H ∧ va_P (gD g) vwCl (ltW g h a b f w n) H) (.int (acF (toC bc n f bs) 0 8)) := by
  refine pu_ofI (cc := cX0_tornBlockCount) (maxL := 4) (by decide) rfl (Nat.le_of_ble_eq_true rfl) ?_
  intro p e s m args below meth c H ls Q hx hb hml hts hown hK hP hl hret
  have hl : lv_has ls 4 [(0, .ref (q)), (1, .ref (h))] := hl
  have S : CallFix p m c cX0_tornBlockCount 4 s args wsX0_tornBlockCount RX0 := ⟨hx, hb, hml, hown, hts⟩
  refine lv_iconst (v := 0) hx hb dX0_tornBlockCount_0 (by decide +kernel) ?_
  refine lv_istore_n (lv' := [(2, .int (0)), (0, .ref (q)), (1, .ref (h))]) hx hb dX0_tornBlockCount_1 rfl hl (by decide) rfl (fun ls hl => ?_)
  refine lv_iconst (v := nI (0)) hx hb dX0_tornBlockCount_2 (by decide +kernel) ?_
  refine lv_istore_n (lv' := [(3, .int (nI (0))), (2, .int (0)), (0, .ref (q)), (1, .ref (h))]) hx hb dX0_tornBlockCount_3 rfl hl (by decide) rfl (fun ls hl => ?_)
  have L4 : ∀ (k1 i : Nat) (ls : Array Slot), 8 - i < k1 → i ≤ 8 → lv_has ls 4 [(3, .int (nI i)), (2, .int (acF (toC bc n f bs) 0 i)), (0, .ref (q)), (1, .ref (h))] → W p l e { frames := 2, cells := 0, slots := 0, locals := 48 } s m args below meth c H [] 0 0 Q (F0 m 4 ls []) := by
    intro k1
    induction k1 with
    | zero => intro i ls hFu; exact absurd hFu (Nat.not_lt_zero _)
    | succ k1 ih1 =>
      intro i ls hFu hLe hl
      refine lv_iload_n hx hb dX0_tornBlockCount_4 rfl (lv_at hl 0 rfl) ?_
      refine lv_bipush (v := nI (8)) hx hb dX0_tornBlockCount_5 (by decide +kernel) ?_
      refine br_ge (a := i) (b := 8) (tgt := 28) hx hb (by omega) (by omega) dX0_tornBlockCount_7 (by decide) (fun c7 => ?_) (fun c7 => ?_)
      · have e_i : i = 8 := by omega
        rw [e_i] at hl
        refine lv_iload_n hx hb dX0_tornBlockCount_28 rfl (lv_at hl 1 rfl) ?_
        exact hret _ _ dX0_tornBlockCount_29
      · refine lv_aload_n hx hb dX0_tornBlockCount_10 rfl (lv_at hl 2 rfl) ?_
        refine lv_aload_n hx hb dX0_tornBlockCount_11 rfl (lv_at hl 3 rfl) ?_
        refine lv_iload_n hx hb dX0_tornBlockCount_12 rfl (lv_at hl 0 rfl) ?_
        refine p_V (As := [.ref (h), .int (nI i)]) (rest := []) S (c_X0_isTorn l g q y ln dg sc bc ss wg sl bs hsc hbc h a b f w n hn i (by omega)) (cwV 2 hts gX0_tornBlockCount_X0_isTorn rfl rfl rfl (by decide +kernel) ⟨Nat.le_of_ble_eq_true rfl, Nat.le_of_ble_eq_true rfl⟩) hK (va_recv hK.1 hP.1 (ci := 0) (q0 := 0) rfl rfl) (hP) rfl hl.1 rfl (Nat.le_of_ble_eq_true rfl) dX0_tornBlockCount_13 ⟨Nat.le_of_ble_eq_true rfl, Nat.le_of_ble_eq_true rfl⟩ ?_
        refine br_eqB (tgt := 22) hx hb dX0_tornBlockCount_16 (by decide) (fun c16 => ?_) (fun c16 => ?_)
        · have hl : lv_has ls 4 [(3, .int (nI i)), (2, .int (acF (toC bc n f bs) 0 (i + 1))), (0, .ref (q)), (1, .ref (h))] := by rw [acF, if_neg (by rw [c16]; decide)]; exact hl
          refine lv_iinc (v := nI (i + 1)) (lv' := [(3, .int (nI (i + 1))), (2, .int (acF (toC bc n f bs) 0 (i + 1))), (0, .ref (q)), (1, .ref (h))]) hx hb dX0_tornBlockCount_22 hl (k := 0) rfl (nI_1 _) (by decide) rfl (fun ls hl => ?_)
          refine lv_goto (tgt := 4) hx hb dX0_tornBlockCount_25 (by decide) ?_
          exact ih1 (i + 1) _ (by omega) (by omega) (lv_sub hl [0, 1, 2, 3] rfl)
        · refine lv_iinc (v := acF (toC bc n f bs) 0 (i + 1)) (lv' := [(2, .int (acF (toC bc n f bs) 0 (i + 1))), (3, .int (nI i)), (0, .ref (q)), (1, .ref (h))]) hx hb dX0_tornBlockCount_19 hl (k := 1) rfl (by rw [acF, if_pos c16]; rfl) (by decide) rfl (fun ls hl => ?_)
          refine lv_iinc (v := nI (i + 1)) (lv' := [(3, .int (nI (i + 1))), (2, .int (acF (toC bc n f bs) 0 (i + 1))), (0, .ref (q)), (1, .ref (h))]) hx hb dX0_tornBlockCount_22 hl (k := 1) rfl (nI_1 _) (by decide) rfl (fun ls hl => ?_)
          refine lv_goto (tgt := 4) hx hb dX0_tornBlockCount_25 (by decide) ?_
          exact ih1 (i + 1) _ (by omega) (by omega) (lv_sub hl [0, 1, 2, 3] rfl)
  exact L4 (8 + 1) (0) _ (by omega) (by omega) (lv_sub hl [0, 1, 2, 3] rfl)

set_option maxHeartbeats 4000000 in
set_option maxRecDepth 100000 in
/-- firstTornBlock(now) -/
theorem c_X0_firstTornBlock (l : Launch) (g : gT) (q y : Nat) (ln dg : Int32) (sc bc : Nat) (ss wg sl : Int32) (bs : Nat → Int32) (hsc : sc ≤ 40) (hbc : bc ≤ 8) (h a b : Nat) (f w : Nat → Int32) (n : Nat) (hn : n ≤ 40) : pM g l yX0_firstTornBlock wsX0_firstTornBlock { frames := 2, cells := 0, slots := 0, locals := 48 } [.ref (q), .ref (h)] (fun H => va_P (gD g) vwCl (evW g q y ln dg sc bc ss wg sl bs) H ∧ va_P (gD g) vwCl (ltW g h a b f w n) H) (.int (fsF (toC bc n f bs) 8 0)) := by
  refine pu_ofI (cc := cX0_firstTornBlock) (maxL := 3) (by decide) rfl (Nat.le_of_ble_eq_true rfl) ?_
  intro p e s m args below meth c H ls Q hx hb hml hts hown hK hP hl hret
  have hl : lv_has ls 3 [(0, .ref (q)), (1, .ref (h))] := hl
  have S : CallFix p m c cX0_firstTornBlock 3 s args wsX0_firstTornBlock RX0 := ⟨hx, hb, hml, hown, hts⟩
  refine lv_iconst (v := nI (0)) hx hb dX0_firstTornBlock_0 (by decide +kernel) ?_
  refine lv_istore_n (lv' := [(2, .int (nI (0))), (0, .ref (q)), (1, .ref (h))]) hx hb dX0_firstTornBlock_1 rfl hl (by decide) rfl (fun ls hl => ?_)
  have L2 : ∀ (k1 i : Nat) (ls : Array Slot), 8 - i < k1 → i ≤ 8 → (fsF (toC bc n f bs) 8 0 = fsF (toC bc n f bs) (8 - i) i) → lv_has ls 3 [(2, .int (nI i)), (0, .ref (q)), (1, .ref (h))] → W p l e { frames := 2, cells := 0, slots := 0, locals := 48 } s m args below meth c H [] 0 0 Q (F0 m 2 ls []) := by
    intro k1
    induction k1 with
    | zero => intro i ls hFu; exact absurd hFu (Nat.not_lt_zero _)
    | succ k1 ih1 =>
      intro i ls hFu hLe he hl
      refine lv_iload_n hx hb dX0_firstTornBlock_2 rfl (lv_at hl 0 rfl) ?_
      refine lv_bipush (v := nI (8)) hx hb dX0_firstTornBlock_3 (by decide +kernel) ?_
      refine br_ge (a := i) (b := 8) (tgt := 25) hx hb (by omega) (by omega) dX0_firstTornBlock_5 (by decide) (fun c5 => ?_) (fun c5 => ?_)
      · refine lv_iconst (v := (-1)) hx hb dX0_firstTornBlock_25 (by decide +kernel) ?_
        refine lv_toI (z := fsF (toC bc n f bs) 8 0) (by rw [he, show 8 - i = 0 by omega]; rfl) ?_
        exact hret _ _ dX0_firstTornBlock_26
      · refine lv_aload_n hx hb dX0_firstTornBlock_8 rfl (lv_at hl 1 rfl) ?_
        refine lv_aload_n hx hb dX0_firstTornBlock_9 rfl (lv_at hl 2 rfl) ?_
        refine lv_iload_n hx hb dX0_firstTornBlock_10 rfl (lv_at hl 0 rfl) ?_
        refine p_V (As := [.ref (h), .int (nI i)]) (rest := []) S (c_X0_isTorn l g q y ln dg sc bc ss wg sl bs hsc hbc h a b f w n hn i (by omega)) (cwV 2 hts gX0_firstTornBlock_X0_isTorn rfl rfl rfl (by decide +kernel) ⟨Nat.le_of_ble_eq_true rfl, Nat.le_of_ble_eq_true rfl⟩) hK (va_recv hK.1 hP.1 (ci := 0) (q0 := 0) rfl rfl) (hP) rfl hl.1 rfl (Nat.le_of_ble_eq_true rfl) dX0_firstTornBlock_11 ⟨Nat.le_of_ble_eq_true rfl, Nat.le_of_ble_eq_true rfl⟩ ?_
        refine br_eqB (tgt := 19) hx hb dX0_firstTornBlock_14 (by decide) (fun c14 => ?_) (fun c14 => ?_)
        · refine lv_iinc (v := nI (i + 1)) (lv' := [(2, .int (nI (i + 1))), (0, .ref (q)), (1, .ref (h))]) hx hb dX0_firstTornBlock_19 hl (k := 0) rfl (nI_1 _) (by decide) rfl (fun ls hl => ?_)
          refine lv_goto (tgt := 2) hx hb dX0_firstTornBlock_22 (by decide) ?_
          exact ih1 (i + 1) _ (by omega) (by omega) (he.trans (fsF_no c5 c14)) (lv_sub hl [0, 1, 2] rfl)
        · refine lv_iload_n hx hb dX0_firstTornBlock_17 rfl (lv_at hl 0 rfl) ?_
          refine lv_toI (z := fsF (toC bc n f bs) 8 0) ((he.trans (fsF_yes (by omega) c14)).symm) ?_
          exact hret _ _ dX0_firstTornBlock_18
  exact L2 (8 + 1) (0) _ (by omega) (by omega) (rfl) (lv_sub hl [0, 1, 2] rfl)

set_option maxHeartbeats 4000000 in
set_option maxRecDepth 100000 in
/-- placeOfChange(now) -/
theorem c_X0_placeOfChange (l : Launch) (g : gT) (q y : Nat) (ln dg : Int32) (sc bc : Nat) (ss wg sl : Int32) (bs : Nat → Int32) (hsc : sc ≤ 40) (hbc : bc ≤ 8) (h a b : Nat) (f w : Nat → Int32) (n : Nat) (hn : n ≤ 40) : pM g l yX0_placeOfChange wsX0_placeOfChange { frames := 2, cells := 0, slots := 0, locals := 43 } [.ref (q), .ref (h)] (fun H => va_P (gD g) vwCl (evW g q y ln dg sc bc ss wg sl bs) H ∧ va_P (gD g) vwCl (ltW g h a b f w n) H) (.int (chC (decide (dgF f n = dg)) sc n (ss - smF f n) (wg - wtF f n) f)) := by
  refine pu_ofI (cc := cX0_placeOfChange) (maxL := 6) (by decide) rfl (Nat.le_of_ble_eq_true rfl) ?_
  intro p e s m args below meth c H ls Q hx hb hml hts hown hK hP hl hret
  have hl : lv_has ls 6 [(0, .ref (q)), (1, .ref (h))] := hl
  have S : CallFix p m c cX0_placeOfChange 6 s args wsX0_placeOfChange RX0 := ⟨hx, hb, hml, hown, hts⟩
  have iX0 : ∀ w ∈ u_ws RX0 TX0 8, w ∈ wsX0_placeOfChange := by decide +kernel
  have iX1 : ∀ w ∈ u_ws RX1 TX1 3, w ∈ wsX0_placeOfChange := by decide +kernel
  have f31 := hts (.fieldLink RX0 31 "LetterSeals$Envelope" "signCount" "I") (by decide +kernel)
  have f51 := hts (.fieldLink RX0 51 "LetterSeals$Envelope" "weightedSum" "I") (by decide +kernel)
  have n28 : (Cond.fieldLinkNest RX0 28 "LetterSeals$Letter" "count" "I" "LetterSeals").before args s = true := va_Nw.use rfl (hK.2.1 ("LetterSeals$Envelope", 28, "LetterSeals$Letter", "count", "I") (List.mem_of_getElem? (i := 2) rfl))
  have n72 : (Cond.fieldLinkNest RX0 72 "LetterSeals$Letter" "signs" "[I" "LetterSeals").before args s = true := va_Nw.use rfl (hK.2.1 ("LetterSeals$Envelope", 72, "LetterSeals$Letter", "signs", "[I") (List.mem_of_getElem? (i := 1) rfl))
  refine lv_aload_n hx hb dX0_placeOfChange_0 rfl (lv_at hl 0 rfl) ?_
  refine lv_aload_n hx hb dX0_placeOfChange_1 rfl (lv_at hl 1 rfl) ?_
  refine p_V (As := [.ref (h)]) (rest := []) S (c_X0_lostInSum l g q y ln dg sc bc ss wg sl bs hsc hbc h a b f w n hn) (cwV 1 hts gX0_placeOfChange_X0_lostInSum rfl rfl rfl (by decide +kernel) ⟨Nat.le_of_ble_eq_true rfl, Nat.le_of_ble_eq_true rfl⟩) hK (va_recv hK.1 hP.1 (ci := 0) (q0 := 0) rfl rfl) (hP) rfl hl.1 rfl (Nat.le_of_ble_eq_true rfl) dX0_placeOfChange_2 ⟨Nat.le_of_ble_eq_true rfl, Nat.le_of_ble_eq_true rfl⟩ ?_
  refine lv_istore_n (lv' := [(2, .int (ss - smF f n)), (0, .ref (q)), (1, .ref (h))]) hx hb dX0_placeOfChange_5 rfl hl (by decide) rfl (fun ls hl => ?_)
  refine lv_aload_n hx hb dX0_placeOfChange_6 rfl (lv_at hl 1 rfl) ?_
  refine lv_aload_n hx hb dX0_placeOfChange_7 rfl (lv_at hl 2 rfl) ?_
  refine p_V (As := [.ref (h)]) (rest := []) S (c_X0_fits l g q y ln dg sc bc ss wg sl bs hsc hbc h a b f w n hn) (cwV 1 hts gX0_placeOfChange_X0_fits rfl rfl rfl (by decide +kernel) ⟨Nat.le_of_ble_eq_true rfl, Nat.le_of_ble_eq_true rfl⟩) hK (va_recv hK.1 hP.1 (ci := 0) (q0 := 0) rfl rfl) (hP) rfl hl.1 rfl (Nat.le_of_ble_eq_true rfl) dX0_placeOfChange_8 ⟨Nat.le_of_ble_eq_true rfl, Nat.le_of_ble_eq_true rfl⟩ ?_
  refine br_neB (tgt := 29) hx hb dX0_placeOfChange_11 (by decide) (fun c11 => ?_) (fun c11 => ?_)
  · refine lv_iconst (v := (-1)) hx hb dX0_placeOfChange_29 (by decide +kernel) ?_
    refine lv_toI (z := chC (decide (dgF f n = dg)) sc n (ss - smF f n) (wg - wtF f n) f) ((chC_a (by first | exact Or.inl c11 | exact Or.inr (Or.inl c22) | exact Or.inr (Or.inr c26))).symm) ?_
    exact hret _ _ dX0_placeOfChange_30
  · refine lv_aload_n hx hb dX0_placeOfChange_14 rfl (lv_at hl 2 rfl) ?_
    refine va_getN (D := gD g) (ci := 1) (v := .int (nI n)) (C := RX1) (T := TX1) (N := 3) hx hb hts iX1 hown hK.1 hP.2 0 rfl rfl 2 (by decide) n28 (fun _ h9 => h9) rfl dX0_placeOfChange_15 ?_
    refine lv_aload_n hx hb dX0_placeOfChange_18 rfl (lv_at hl 1 rfl) ?_
    refine va_get (D := gD g) (ci := 0) (v := .int (nI sc)) (C := RX0) (T := TX0) (N := 8) hx hb hts iX0 hown hK.1 hP.1 0 rfl rfl 3 (by decide) f31 (fun _ h9 => h9) rfl dX0_placeOfChange_19 ?_
    refine br_ne (a := n) (b := sc) (tgt := 29) hx hb (by omega) (by omega) dX0_placeOfChange_22 (by decide) (fun c22 => ?_) (fun c22 => ?_)
    · refine lv_iconst (v := (-1)) hx hb dX0_placeOfChange_29 (by decide +kernel) ?_
      refine lv_toI (z := chC (decide (dgF f n = dg)) sc n (ss - smF f n) (wg - wtF f n) f) ((chC_a (by first | exact Or.inl c11 | exact Or.inr (Or.inl c22) | exact Or.inr (Or.inr c26))).symm) ?_
      exact hret _ _ dX0_placeOfChange_30
    · refine lv_iload_n hx hb dX0_placeOfChange_25 rfl (lv_at hl 0 rfl) ?_
      refine lv_if_ne (tgt := 31) hx hb dX0_placeOfChange_26 (by decide) (fun c26 => ?_) (fun c26 => ?_)
      · refine lv_aload_n hx hb dX0_placeOfChange_31 rfl (lv_at hl 1 rfl) ?_
        refine va_get (D := gD g) (ci := 0) (v := .int (wg)) (C := RX0) (T := TX0) (N := 8) hx hb hts iX0 hown hK.1 hP.1 0 rfl rfl 6 (by decide) f51 (fun _ h9 => h9) rfl dX0_placeOfChange_32 ?_
        refine lv_aload_n hx hb dX0_placeOfChange_35 rfl (lv_at hl 2 rfl) ?_
        refine p_V (As := []) (rest := [.int (wg)]) S (c_X1_weightedSum l g h a b f w n hn) (cwV 0 hts gX0_placeOfChange_X1_weightedSum rfl rfl rfl (by decide +kernel) ⟨Nat.le_of_ble_eq_true rfl, Nat.le_of_ble_eq_true rfl⟩) hK (va_recv hK.1 hP.2 (ci := 1) (q0 := 0) rfl rfl) (hP.2) rfl hl.1 rfl (Nat.le_of_ble_eq_true rfl) dX0_placeOfChange_36 ⟨Nat.le_of_ble_eq_true rfl, Nat.le_of_ble_eq_true rfl⟩ ?_
        refine lv_isub hx hb dX0_placeOfChange_39 ?_
        refine lv_toI (z := wg - wtF f n) (rfl) ?_
        refine lv_istore_n (lv' := [(3, .int (wg - wtF f n)), (2, .int (ss - smF f n)), (0, .ref (q)), (1, .ref (h))]) hx hb dX0_placeOfChange_40 rfl hl (by decide) rfl (fun ls hl => ?_)
        refine lv_iconst (v := nI (0)) hx hb dX0_placeOfChange_41 (by decide +kernel) ?_
        refine lv_istore (lv' := [(4, .int (nI (0))), (3, .int (wg - wtF f n)), (2, .int (ss - smF f n)), (0, .ref (q)), (1, .ref (h))]) hx hb dX0_placeOfChange_42 hl (by decide) rfl (fun ls hl => ?_)
        have L44 : ∀ (k1 i : Nat) (ls : Array Slot), n - i < k1 → i ≤ n → (fsF (chP (ss - smF f n) (wg - wtF f n) f) n 0 = fsF (chP (ss - smF f n) (wg - wtF f n) f) (n - i) i) → lv_has ls 6 [(4, .int (nI i)), (2, .int (ss - smF f n)), (3, .int (wg - wtF f n)), (0, .ref (q)), (1, .ref (h))] → W p l e { frames := 2, cells := 0, slots := 0, locals := 43 } s m args below meth c H [] 0 0 Q (F0 m 44 ls []) := by
          intro k1
          induction k1 with
          | zero => intro i ls hFu; exact absurd hFu (Nat.not_lt_zero _)
          | succ k1 ih1 =>
            intro i ls hFu hLe he hl
            refine lv_iload hx hb dX0_placeOfChange_44 (lv_at hl 0 rfl) ?_
            refine lv_aload_n hx hb dX0_placeOfChange_46 rfl (lv_at hl 4 rfl) ?_
            refine va_getN (D := gD g) (ci := 1) (v := .int (nI n)) (C := RX1) (T := TX1) (N := 3) hx hb hts iX1 hown hK.1 hP.2 0 rfl rfl 2 (by decide) n28 (fun _ h9 => h9) rfl dX0_placeOfChange_47 ?_
            refine br_ge (a := i) (b := n) (tgt := 95) hx hb (by omega) (by omega) dX0_placeOfChange_50 (by decide) (fun c50 => ?_) (fun c50 => ?_)
            · refine lv_iconst (v := (-1)) hx hb dX0_placeOfChange_95 (by decide +kernel) ?_
              refine lv_toI (z := chC (decide (dgF f n = dg)) sc n (ss - smF f n) (wg - wtF f n) f) (by rw [chC_go c11 c22 c26, he, show n - i = 0 by omega]; rfl) ?_
              exact hret _ _ dX0_placeOfChange_96
            · refine lv_aload_n hx hb dX0_placeOfChange_53 rfl (lv_at hl 4 rfl) ?_
              refine va_getN (D := gD g) (ci := 1) (v := .ref (a)) (C := RX1) (T := TX1) (N := 3) hx hb hts iX1 hown hK.1 hP.2 0 rfl rfl 0 (by decide) n72 (fun _ h9 => h9) rfl dX0_placeOfChange_54 ?_
              refine lv_iload hx hb dX0_placeOfChange_57 (lv_at hl 0 rfl) ?_
              refine ld_I (k := i) (n := 40) (f := f) hx hb hK.1 hP.2 1 rfl (by omega) (by omega) dX0_placeOfChange_59 ?_
              refine lv_iload_n hx hb dX0_placeOfChange_60 rfl (lv_at hl 1 rfl) ?_
              refine lv_iadd hx hb dX0_placeOfChange_61 ?_
              refine lv_toI (z := f i + (ss - smF f n)) (rfl) ?_
              refine lv_istore (lv' := [(5, .int (f i + (ss - smF f n))), (4, .int (nI i)), (2, .int (ss - smF f n)), (3, .int (wg - wtF f n)), (0, .ref (q)), (1, .ref (h))]) hx hb dX0_placeOfChange_62 hl (by decide) rfl (fun ls hl => ?_)
              refine lv_iload hx hb dX0_placeOfChange_64 (lv_at hl 0 rfl) ?_
              refine lv_if_lt (tgt := 89) hx hb dX0_placeOfChange_66 (by decide) (fun c66 => ?_) (fun c66 => ?_)
              · refine lv_iinc (v := nI (i + 1)) (lv' := [(4, .int (nI (i + 1))), (5, .int (f i + (ss - smF f n))), (2, .int (ss - smF f n)), (3, .int (wg - wtF f n)), (0, .ref (q)), (1, .ref (h))]) hx hb dX0_placeOfChange_89 hl (k := 1) rfl (nI_1 _) (by decide) rfl (fun ls hl => ?_)
                refine lv_goto (tgt := 44) hx hb dX0_placeOfChange_92 (by decide) ?_
                exact ih1 (i + 1) _ (by omega) (by omega) (he.trans (fsF_no c50 (chP_no (by first | exact Or.inl c66 | exact Or.inr (Or.inl c73) | exact Or.inr (Or.inr c83))))) (lv_sub hl [0, 2, 3, 4, 5] rfl)
              · refine lv_iload hx hb dX0_placeOfChange_69 (lv_at hl 0 rfl) ?_
                refine lv_bipush (v := 30) hx hb dX0_placeOfChange_71 (by decide +kernel) ?_
                refine lv_icmp_gt (tgt := 89) hx hb dX0_placeOfChange_73 (by decide) (fun c73 => ?_) (fun c73 => ?_)
                · refine lv_iinc (v := nI (i + 1)) (lv' := [(4, .int (nI (i + 1))), (5, .int (f i + (ss - smF f n))), (2, .int (ss - smF f n)), (3, .int (wg - wtF f n)), (0, .ref (q)), (1, .ref (h))]) hx hb dX0_placeOfChange_89 hl (k := 1) rfl (nI_1 _) (by decide) rfl (fun ls hl => ?_)
                  refine lv_goto (tgt := 44) hx hb dX0_placeOfChange_92 (by decide) ?_
                  exact ih1 (i + 1) _ (by omega) (by omega) (he.trans (fsF_no c50 (chP_no (by first | exact Or.inl c66 | exact Or.inr (Or.inl c73) | exact Or.inr (Or.inr c83))))) (lv_sub hl [0, 2, 3, 4, 5] rfl)
                · refine lv_iload_n hx hb dX0_placeOfChange_76 rfl (lv_at hl 2 rfl) ?_
                  refine lv_iload hx hb dX0_placeOfChange_77 (lv_at hl 1 rfl) ?_
                  refine lv_iconst (v := nI (1)) hx hb dX0_placeOfChange_79 (by decide +kernel) ?_
                  refine lv_iadd hx hb dX0_placeOfChange_80 ?_
                  refine lv_toI (z := nI (i + 1)) (nI_add _ _) ?_
                  refine lv_imul hx hb dX0_placeOfChange_81 ?_
                  refine lv_iload_n hx hb dX0_placeOfChange_82 rfl (lv_at hl 3 rfl) ?_
                  refine lv_icmp_ne (tgt := 89) hx hb dX0_placeOfChange_83 (by decide) (fun c83 => ?_) (fun c83 => ?_)
                  · refine lv_iinc (v := nI (i + 1)) (lv' := [(4, .int (nI (i + 1))), (5, .int (f i + (ss - smF f n))), (2, .int (ss - smF f n)), (3, .int (wg - wtF f n)), (0, .ref (q)), (1, .ref (h))]) hx hb dX0_placeOfChange_89 hl (k := 1) rfl (nI_1 _) (by decide) rfl (fun ls hl => ?_)
                    refine lv_goto (tgt := 44) hx hb dX0_placeOfChange_92 (by decide) ?_
                    exact ih1 (i + 1) _ (by omega) (by omega) (he.trans (fsF_no c50 (chP_no (by first | exact Or.inl c66 | exact Or.inr (Or.inl c73) | exact Or.inr (Or.inr c83))))) (lv_sub hl [0, 2, 3, 4, 5] rfl)
                  · refine lv_iload hx hb dX0_placeOfChange_86 (lv_at hl 1 rfl) ?_
                    refine lv_toI (z := chC (decide (dgF f n = dg)) sc n (ss - smF f n) (wg - wtF f n) f) (((chC_go c11 c22 c26).trans (he.trans (fsF_yes (by omega) (chP_yes c66 c73 c83)))).symm) ?_
                    exact hret _ _ dX0_placeOfChange_88
        exact L44 (n + 1) (0) _ (by omega) (by omega) (rfl) (lv_sub hl [0, 2, 1, 3, 4] rfl)
      · refine lv_iconst (v := (-1)) hx hb dX0_placeOfChange_29 (by decide +kernel) ?_
        refine lv_toI (z := chC (decide (dgF f n = dg)) sc n (ss - smF f n) (wg - wtF f n) f) ((chC_a (by first | exact Or.inl c11 | exact Or.inr (Or.inl c22) | exact Or.inr (Or.inr c26))).symm) ?_
        exact hret _ _ dX0_placeOfChange_30
