/-- the reference's ten cells: its object h, its rows X 0 .. X 8 (many, sign, of, written, had, blocks, added, weighed, seals), what they hold V 0 .. V 8 -/
abbrev mdW (g : gT) (h : Nat) (X : Nat → Nat) (V : Nat → Nat → Int32) (th : Int32) (lc ec : Nat) : va_W := [(h, .inr (3, [.int th, .int (nI lc), .ref (X 0), .ref (X 1), .int (nI ec), .ref (X 2), .ref (X 3), .ref (X 4), .ref (X 5), .ref (X 6), .ref (X 7), .ref (X 8)])), (X 0, .inl (gI g, 12, .inl (V 0))), (X 1, .inl (gI g, 480, .inl (V 1))), (X 2, .inl (gI g, 24, .inl (V 2))), (X 3, .inl (gI g, 24, .inl (V 3))), (X 4, .inl (gI g, 24, .inl (V 4))), (X 5, .inl (gI g, 192, .inl (V 5))), (X 6, .inl (gI g, 24, .inl (V 6))), (X 7, .inl (gI g, 24, .inl (V 7))), (X 8, .inl (gI g, 24, .inl (V 8)))]

set_option maxHeartbeats 4000000 in
set_option maxRecDepth 100000 in
/-- isFrom -/
theorem c_X3_isFrom (l : Launch) (g : gT) (x lo hi : Int32) : pM g l yX3_isFrom wsX3_isFrom { frames := 0, cells := 0, slots := 0, locals := 0 } [.int (x), .int (lo), .int (hi)] (fun _ => True) (.int (bI (decide (lo ≤ x) && decide (x ≤ hi)))) := by
  refine pu_ofZ (cc := cX3_isFrom) (maxL := 3) (bI_n _) (by decide) rfl (Nat.le_of_ble_eq_true rfl) ?_
  intro p e s m args below meth c H ls Q hx hb hml hts hown hK hP hl hret
  have hl : lv_has ls 3 [(0, .int (x)), (1, .int (lo)), (2, .int (hi))] := hl
  have S : CallFix p m c cX3_isFrom 3 s args wsX3_isFrom RX3 := ⟨hx, hb, hml, hown, hts⟩
  refine lv_iload_n hx hb dX3_isFrom_0 rfl (lv_at hl 0 rfl) ?_
  refine lv_iload_n hx hb dX3_isFrom_1 rfl (lv_at hl 1 rfl) ?_
  refine lv_icmp_lt (tgt := 14) hx hb dX3_isFrom_2 (by decide) (fun c2 => ?_) (fun c2 => ?_)
  · refine lv_iconst (v := bI false) hx hb dX3_isFrom_14 (by decide +kernel) ?_
    refine lv_toI (z := bI (decide (lo ≤ x) && decide (x ≤ hi))) (by first | (rw [decide_eq_false (Int32.not_le.mpr c2)]; rfl) | (rw [decide_eq_false (Int32.not_le.mpr c7), Bool.and_false])) ?_
    exact hret _ _ dX3_isFrom_15
  · refine lv_iload_n hx hb dX3_isFrom_5 rfl (lv_at hl 0 rfl) ?_
    refine lv_iload_n hx hb dX3_isFrom_6 rfl (lv_at hl 2 rfl) ?_
    refine lv_icmp_gt (tgt := 14) hx hb dX3_isFrom_7 (by decide) (fun c7 => ?_) (fun c7 => ?_)
    · refine lv_iconst (v := bI false) hx hb dX3_isFrom_14 (by decide +kernel) ?_
      refine lv_toI (z := bI (decide (lo ≤ x) && decide (x ≤ hi))) (by first | (rw [decide_eq_false (Int32.not_le.mpr c2)]; rfl) | (rw [decide_eq_false (Int32.not_le.mpr c7), Bool.and_false])) ?_
      exact hret _ _ dX3_isFrom_15
    · refine lv_iconst (v := bI true) hx hb dX3_isFrom_10 (by decide +kernel) ?_
      refine lv_goto (tgt := 15) hx hb dX3_isFrom_11 (by decide) ?_
      refine lv_toI (z := bI (decide (lo ≤ x) && decide (x ≤ hi))) (by rw [decide_eq_true (Int32.not_lt.mp c2), decide_eq_true (Int32.not_lt.mp c7)]; rfl) ?_
      exact hret _ _ dX3_isFrom_15

set_option maxHeartbeats 4000000 in
set_option maxRecDepth 100000 in
/-- isLetter -/
theorem c_X3_isLetter (l : Launch) (g : gT) (h : Nat) (X : Nat → Nat) (V : Nat → Nat → Int32) (th : Int32) (lc ec : Nat) (x : Int32) (hlc : lc ≤ 12) (hec : ec ≤ 24) : pM g l yX3_isLetter wsX3_isLetter { frames := 1, cells := 0, slots := 0, locals := 22 } [.ref (h), .int (x)] (fun H => va_P (gD g) vwCl (mdW g h X V th lc ec) H) (.int (bI (inB (x) lc))) := by
  refine pu_ofZ (cc := cX3_isLetter) (maxL := 2) (bI_n _) (by decide) rfl (Nat.le_of_ble_eq_true rfl) ?_
  intro p e s m args below meth c H ls Q hx hb hml hts hown hK hP hl hret
  have hl : lv_has ls 2 [(0, .ref (h)), (1, .int (x))] := hl
  have S : CallFix p m c cX3_isLetter 2 s args wsX3_isLetter RX3 := ⟨hx, hb, hml, hown, hts⟩
  have iX3 : ∀ w ∈ u_ws RX3 TX3 12, w ∈ wsX3_isLetter := by decide +kernel
  have f41 := hts (.fieldLink RX3 41 "LetterSealsModel" "letters" "I") (by decide +kernel)
  refine lv_iload_n hx hb dX3_isLetter_0 rfl (lv_at hl 1 rfl) ?_
  refine lv_iconst (v := 0) hx hb dX3_isLetter_1 (by decide +kernel) ?_
  refine lv_aload_n hx hb dX3_isLetter_2 rfl (lv_at hl 0 rfl) ?_
  refine va_get (D := gD g) (ci := 3) (v := .int (nI lc)) (C := RX3) (T := TX3) (N := 12) hx hb hts iX3 hown hK.1 hP 0 rfl rfl 1 (by decide) f41 (fun _ h9 => h9) rfl dX3_isLetter_3 ?_
  refine lv_iconst (v := 1) hx hb dX3_isLetter_6 (by decide +kernel) ?_
  refine lv_isub hx hb dX3_isLetter_7 ?_
  refine p_S (As := [.int (x), .int (0), .int ((nI lc) - (1))]) (rest := []) S (c_X3_isFrom l g x 0 (nI lc - 1)) (cwS 3 hts gX3_isLetter_X3_isFrom rfl rfl rfl (by decide +kernel) ⟨Nat.le_of_ble_eq_true rfl, Nat.le_of_ble_eq_true rfl⟩) hK (trivial) rfl hl.1 rfl (Nat.le_of_ble_eq_true rfl) dX3_isLetter_8 ⟨Nat.le_of_ble_eq_true rfl, Nat.le_of_ble_eq_true rfl⟩ ?_
  refine lv_toI (z := bI (inB (x) lc)) (congrArg bI (inB_le (by omega))) ?_
  exact hret _ _ dX3_isLetter_11

set_option maxHeartbeats 4000000 in
set_option maxRecDepth 100000 in
/-- isEnvelope -/
theorem c_X3_isEnvelope (l : Launch) (g : gT) (h : Nat) (X : Nat → Nat) (V : Nat → Nat → Int32) (th : Int32) (lc ec : Nat) (x : Int32) (hlc : lc ≤ 12) (hec : ec ≤ 24) : pM g l yX3_isEnvelope wsX3_isEnvelope { frames := 1, cells := 0, slots := 0, locals := 22 } [.ref (h), .int (x)] (fun H => va_P (gD g) vwCl (mdW g h X V th lc ec) H) (.int (bI (inB (x) ec))) := by
  refine pu_ofZ (cc := cX3_isEnvelope) (maxL := 2) (bI_n _) (by decide) rfl (Nat.le_of_ble_eq_true rfl) ?_
  intro p e s m args below meth c H ls Q hx hb hml hts hown hK hP hl hret
  have hl : lv_has ls 2 [(0, .ref (h)), (1, .int (x))] := hl
  have S : CallFix p m c cX3_isEnvelope 2 s args wsX3_isEnvelope RX3 := ⟨hx, hb, hml, hown, hts⟩
  have iX3 : ∀ w ∈ u_ws RX3 TX3 12, w ∈ wsX3_isEnvelope := by decide +kernel
  have f48 := hts (.fieldLink RX3 48 "LetterSealsModel" "envelopes" "I") (by decide +kernel)
  refine lv_iload_n hx hb dX3_isEnvelope_0 rfl (lv_at hl 1 rfl) ?_
  refine lv_iconst (v := 0) hx hb dX3_isEnvelope_1 (by decide +kernel) ?_
  refine lv_aload_n hx hb dX3_isEnvelope_2 rfl (lv_at hl 0 rfl) ?_
  refine va_get (D := gD g) (ci := 3) (v := .int (nI ec)) (C := RX3) (T := TX3) (N := 12) hx hb hts iX3 hown hK.1 hP 0 rfl rfl 4 (by decide) f48 (fun _ h9 => h9) rfl dX3_isEnvelope_3 ?_
  refine lv_iconst (v := 1) hx hb dX3_isEnvelope_6 (by decide +kernel) ?_
  refine lv_isub hx hb dX3_isEnvelope_7 ?_
  refine p_S (As := [.int (x), .int (0), .int ((nI ec) - (1))]) (rest := []) S (c_X3_isFrom l g x 0 (nI ec - 1)) (cwS 3 hts gX3_isEnvelope_X3_isFrom rfl rfl rfl (by decide +kernel) ⟨Nat.le_of_ble_eq_true rfl, Nat.le_of_ble_eq_true rfl⟩) hK (trivial) rfl hl.1 rfl (Nat.le_of_ble_eq_true rfl) dX3_isEnvelope_8 ⟨Nat.le_of_ble_eq_true rfl, Nat.le_of_ble_eq_true rfl⟩ ?_
  refine lv_toI (z := bI (inB (x) ec)) (congrArg bI (inB_le (by omega))) ?_
  exact hret _ _ dX3_isEnvelope_11

set_option maxHeartbeats 4000000 in
set_option maxRecDepth 100000 in
/-- at -/
theorem c_X3_at (l : Launch) (g : gT) (h : Nat) (X : Nat → Nat) (V : Nat → Nat → Int32) (th : Int32) (lc ec : Nat) (k j : Nat) (hk : k < 12) (hj : j < 40) : pM g l yX3_at wsX3_at { frames := 0, cells := 0, slots := 0, locals := 0 } [.ref (h), .int (nI k), .int (nI j)] (fun H => va_P (gD g) vwCl (mdW g h X V th lc ec) H) (.int (V 1 (40 * k + j))) := by
  refine pu_ofI (cc := cX3_at) (maxL := 3) (by decide) rfl (Nat.le_of_ble_eq_true rfl) ?_
  intro p e s m args below meth c H ls Q hx hb hml hts hown hK hP hl hret
  have hl : lv_has ls 3 [(0, .ref (h)), (1, .int (nI k)), (2, .int (nI j))] := hl
  have S : CallFix p m c cX3_at 3 s args wsX3_at RX3 := ⟨hx, hb, hml, hown, hts⟩
  have iX3 : ∀ w ∈ u_ws RX3 TX3 12, w ∈ wsX3_at := by decide +kernel
  have f13 := hts (.fieldLink RX3 13 "LetterSealsModel" "sign" "[I") (by decide +kernel)
  refine lv_aload_n hx hb dX3_at_0 rfl (lv_at hl 0 rfl) ?_
  refine va_get (D := gD g) (ci := 3) (v := .ref (X 1)) (C := RX3) (T := TX3) (N := 12) hx hb hts iX3 hown hK.1 hP 0 rfl rfl 3 (by decide) f13 (fun _ h9 => h9) rfl dX3_at_1 ?_
  refine lv_bipush (v := nI (40)) hx hb dX3_at_4 (by decide +kernel) ?_
  refine lv_iload_n hx hb dX3_at_6 rfl (lv_at hl 1 rfl) ?_
  refine lv_imul hx hb dX3_at_7 ?_
  refine lv_toI (z := nI (40 * k)) (pk_mul _ _) ?_
  refine lv_iload_n hx hb dX3_at_8 rfl (lv_at hl 2 rfl) ?_
  refine lv_iadd hx hb dX3_at_9 ?_
  refine lv_toI (z := nI (40 * k + j)) (nI_add _ _) ?_
  refine ld_I (k := 40 * k + j) (n := 480) (f := V 1) hx hb hK.1 hP 2 rfl (by omega) (by omega) dX3_at_10 ?_
  exact hret _ _ dX3_at_11

set_option maxHeartbeats 4000000 in
set_option maxRecDepth 100000 in
/-- isPlace -/
theorem c_X3_isPlace (l : Launch) (g : gT) (h : Nat) (X : Nat → Nat) (V : Nat → Nat → Int32) (th : Int32) (lc ec : Nat) (NN : Nat → Nat) (hlc : lc ≤ 12) (hec : ec ≤ 24) (hNN : ∀ i, i < lc → V 0 i = nI (NN i) ∧ NN i ≤ 40) (k : Nat) (hk : k < lc) (x : Int32) : pM g l yX3_isPlace wsX3_isPlace { frames := 2, cells := 0, slots := 0, locals := 43 } [.ref (h), .int (nI k), .int (x)] (fun H => va_P (gD g) vwCl (mdW g h X V th lc ec) H) (.int (bI (inB (x) (NN k)))) := by
  refine pu_ofZ (cc := cX3_isPlace) (maxL := 3) (bI_n _) (by decide) rfl (Nat.le_of_ble_eq_true rfl) ?_
  intro p e s m args below meth c H ls Q hx hb hml hts hown hK hP hl hret
  have hl : lv_has ls 3 [(0, .ref (h)), (1, .int (nI k)), (2, .int (x))] := hl
  have S : CallFix p m c cX3_isPlace 3 s args wsX3_isPlace RX3 := ⟨hx, hb, hml, hown, hts⟩
  have hVn := (hNN k hk).1
  have hn := (hNN k hk).2
  have iX3 : ∀ w ∈ u_ws RX3 TX3 12, w ∈ wsX3_isPlace := by decide +kernel
  have f9 := hts (.fieldLink RX3 9 "LetterSealsModel" "many" "[I") (by decide +kernel)
  refine lv_aload_n hx hb dX3_isPlace_0 rfl (lv_at hl 0 rfl) ?_
  refine lv_iload_n hx hb dX3_isPlace_1 rfl (lv_at hl 1 rfl) ?_
  refine p_V (As := [.int (nI k)]) (rest := []) S (c_X3_isLetter l g h X V th lc ec (nI k) hlc hec) (cwV 1 hts gX3_isPlace_X3_isLetter rfl rfl rfl (by decide +kernel) ⟨Nat.le_of_ble_eq_true rfl, Nat.le_of_ble_eq_true rfl⟩) hK (va_recv hK.1 hP (ci := 3) (q0 := 0) rfl rfl) (hP) rfl hl.1 rfl (Nat.le_of_ble_eq_true rfl) dX3_isPlace_2 ⟨Nat.le_of_ble_eq_true rfl, Nat.le_of_ble_eq_true rfl⟩ ?_
  refine br_eqB (tgt := 28) hx hb dX3_isPlace_5 (by decide) (fun c5 => ?_) (fun c5 => ?_)
  · exact absurd c5 (by rw [inB_nI hk (by omega)]; decide)
  · refine lv_iload_n hx hb dX3_isPlace_8 rfl (lv_at hl 2 rfl) ?_
    refine lv_iconst (v := 0) hx hb dX3_isPlace_9 (by decide +kernel) ?_
    refine lv_aload_n hx hb dX3_isPlace_10 rfl (lv_at hl 0 rfl) ?_
    refine va_get (D := gD g) (ci := 3) (v := .ref (X 0)) (C := RX3) (T := TX3) (N := 12) hx hb hts iX3 hown hK.1 hP 0 rfl rfl 2 (by decide) f9 (fun _ h9 => h9) rfl dX3_isPlace_11 ?_
    refine lv_iload_n hx hb dX3_isPlace_14 rfl (lv_at hl 1 rfl) ?_
    refine ld_I (k := k) (n := 12) (f := V 0) hx hb hK.1 hP 1 rfl (by omega) (by omega) dX3_isPlace_15 ?_
    refine lv_toI (z := nI (NN k)) (hVn) ?_
    refine lv_iconst (v := 1) hx hb dX3_isPlace_16 (by decide +kernel) ?_
    refine lv_isub hx hb dX3_isPlace_17 ?_
    refine p_S (As := [.int (x), .int (0), .int ((nI (NN k)) - (1))]) (rest := []) S (c_X3_isFrom l g x 0 (nI (NN k) - 1)) (cwS 3 hts gX3_isPlace_X3_isFrom rfl rfl rfl (by decide +kernel) ⟨Nat.le_of_ble_eq_true rfl, Nat.le_of_ble_eq_true rfl⟩) hK (trivial) rfl hl.1 rfl (Nat.le_of_ble_eq_true rfl) dX3_isPlace_18 ⟨Nat.le_of_ble_eq_true rfl, Nat.le_of_ble_eq_true rfl⟩ ?_
    refine br_eqB (tgt := 28) hx hb dX3_isPlace_21 (by decide) (fun c21 => ?_) (fun c21 => ?_)
    · refine lv_iconst (v := bI false) hx hb dX3_isPlace_28 (by decide +kernel) ?_
      refine lv_toI (z := bI (inB (x) (NN k))) (by rw [← inB_le (show NN k < 2 ^ 31 by omega), c21]) ?_
      exact hret _ _ dX3_isPlace_29
    · refine lv_iconst (v := bI true) hx hb dX3_isPlace_24 (by decide +kernel) ?_
      refine lv_goto (tgt := 29) hx hb dX3_isPlace_25 (by decide) ?_
      refine lv_toI (z := bI (inB (x) (NN k))) (by rw [← inB_le (show NN k < 2 ^ 31 by omega), c21]) ?_
      exact hret _ _ dX3_isPlace_29

set_option maxHeartbeats 4000000 in
set_option maxRecDepth 100000 in
/-- digestWith -/
theorem c_X3_digestWith (l : Launch) (g : gT) (h : Nat) (X : Nat → Nat) (V : Nat → Nat → Int32) (th : Int32) (lc ec : Nat) (NN : Nat → Nat) (hlc : lc ≤ 12) (hec : ec ≤ 24) (hNN : ∀ i, i < lc → V 0 i = nI (NN i) ∧ NN i ≤ 40) (k : Nat) (hk : k < lc) (x o : Int32) : pM g l yX3_digestWith wsX3_digestWith { frames := 1, cells := 0, slots := 0, locals := 22 } [.ref (h), .int (nI k), .int (x), .int (o)] (fun H => va_P (gD g) vwCl (mdW g h X V th lc ec) H) (.int (dgF (wdV V k x o) (NN k))) := by
  refine pu_ofI (cc := cX3_digestWith) (maxL := 6) (by decide) rfl (Nat.le_of_ble_eq_true rfl) ?_
  intro p e s m args below meth c H ls Q hx hb hml hts hown hK hP hl hret
  have hl : lv_has ls 6 [(0, .ref (h)), (1, .int (nI k)), (2, .int (x)), (3, .int (o))] := hl
  have S : CallFix p m c cX3_digestWith 6 s args wsX3_digestWith RX3 := ⟨hx, hb, hml, hown, hts⟩
  have hVn := (hNN k hk).1
  have hn := (hNN k hk).2
  have iX3 : ∀ w ∈ u_ws RX3 TX3 12, w ∈ wsX3_digestWith := by decide +kernel
  have f9 := hts (.fieldLink RX3 9 "LetterSealsModel" "many" "[I") (by decide +kernel)
  refine lv_iconst (v := 5) hx hb dX3_digestWith_0 (by decide +kernel) ?_
  refine lv_istore (lv' := [(4, .int (5)), (0, .ref (h)), (1, .int (nI k)), (2, .int (x)), (3, .int (o))]) hx hb dX3_digestWith_1 hl (by decide) rfl (fun ls hl => ?_)
  refine lv_iconst (v := nI (0)) hx hb dX3_digestWith_3 (by decide +kernel) ?_
  refine lv_istore (lv' := [(5, .int (nI (0))), (4, .int (5)), (0, .ref (h)), (1, .int (nI k)), (2, .int (x)), (3, .int (o))]) hx hb dX3_digestWith_4 hl (by decide) rfl (fun ls hl => ?_)
  have L6 : ∀ (k1 i : Nat) (ls : Array Slot), NN k - i < k1 → i ≤ NN k → lv_has ls 6 [(5, .int (nI i)), (4, .int (dgF (wdV V k x o) i)), (0, .ref (h)), (1, .int (nI k)), (2, .int (x)), (3, .int (o))] → W p l e { frames := 1, cells := 0, slots := 0, locals := 22 } s m args below meth c H [] 0 0 Q (F0 m 6 ls []) := by
    intro k1
    induction k1 with
    | zero => intro i ls hFu; exact absurd hFu (Nat.not_lt_zero _)
    | succ k1 ih1 =>
      intro i ls hFu hLe hl
      refine lv_iload hx hb dX3_digestWith_6 (lv_at hl 0 rfl) ?_
      refine lv_aload_n hx hb dX3_digestWith_8 rfl (lv_at hl 2 rfl) ?_
      refine va_get (D := gD g) (ci := 3) (v := .ref (X 0)) (C := RX3) (T := TX3) (N := 12) hx hb hts iX3 hown hK.1 hP 0 rfl rfl 2 (by decide) f9 (fun _ h9 => h9) rfl dX3_digestWith_9 ?_
      refine lv_iload_n hx hb dX3_digestWith_12 rfl (lv_at hl 3 rfl) ?_
      refine ld_I (k := k) (n := 12) (f := V 0) hx hb hK.1 hP 1 rfl (by omega) (by omega) dX3_digestWith_13 ?_
      refine lv_toI (z := nI (NN k)) (hVn) ?_
      refine br_ge (a := i) (b := NN k) (tgt := 54) hx hb (by omega) (by omega) dX3_digestWith_14 (by decide) (fun c14 => ?_) (fun c14 => ?_)
      · have e_i : i = NN k := by omega
        rw [e_i] at hl
        refine lv_iload hx hb dX3_digestWith_54 (lv_at hl 1 rfl) ?_
        exact hret _ _ dX3_digestWith_56
      · refine lv_iload hx hb dX3_digestWith_17 (lv_at hl 1 rfl) ?_
        refine lv_bipush (v := 37) hx hb dX3_digestWith_19 (by decide +kernel) ?_
        refine lv_imul hx hb dX3_digestWith_21 ?_
        refine lv_iload hx hb dX3_digestWith_22 (lv_at hl 0 rfl) ?_
        refine lv_iload_n hx hb dX3_digestWith_24 rfl (lv_at hl 4 rfl) ?_
        refine lv_icmp_ne (tgt := 32) hx hb dX3_digestWith_25 (by decide) (fun c25 => ?_) (fun c25 => ?_)
        · refine lv_aload_n hx hb dX3_digestWith_32 rfl (lv_at hl 2 rfl) ?_
          refine lv_iload_n hx hb dX3_digestWith_33 rfl (lv_at hl 3 rfl) ?_
          refine lv_iload hx hb dX3_digestWith_34 (lv_at hl 0 rfl) ?_
          refine p_V (As := [.int (nI k), .int (nI i)]) (rest := [.int ((dgF (wdV V k x o) i) * (37))]) S (c_X3_at l g h X V th lc ec (k) (i) (by omega) (by omega)) (cwV 2 hts gX3_digestWith_X3_at rfl rfl rfl (by decide +kernel) ⟨Nat.le_of_ble_eq_true rfl, Nat.le_of_ble_eq_true rfl⟩) hK (va_recv hK.1 hP (ci := 3) (q0 := 0) rfl rfl) (hP) rfl hl.1 rfl (Nat.le_of_ble_eq_true rfl) dX3_digestWith_36 ⟨Nat.le_of_ble_eq_true rfl, Nat.le_of_ble_eq_true rfl⟩ ?_
          refine lv_iadd hx hb dX3_digestWith_39 ?_
          refine lv_iconst (v := 1) hx hb dX3_digestWith_40 (by decide +kernel) ?_
          refine lv_iadd hx hb dX3_digestWith_41 ?_
          refine lv_sipush (v := 8191) hx hb dX3_digestWith_42 (by decide +kernel) ?_
          refine lv_irem hx hb dX3_digestWith_45 (by decide +kernel) ?_
          refine lv_toI (z := dgF (wdV V k x o) (i + 1)) (by first | (rw [dgF, wdV_no c25]; rfl) | (rw [dgF, wdV_yes c25]; rfl)) ?_
          refine lv_istore (lv' := [(4, .int (dgF (wdV V k x o) (i + 1))), (5, .int (nI i)), (0, .ref (h)), (1, .int (nI k)), (2, .int (x)), (3, .int (o))]) hx hb dX3_digestWith_46 hl (by decide) rfl (fun ls hl => ?_)
          refine lv_iinc (v := nI (i + 1)) (lv' := [(5, .int (nI (i + 1))), (4, .int (dgF (wdV V k x o) (i + 1))), (0, .ref (h)), (1, .int (nI k)), (2, .int (x)), (3, .int (o))]) hx hb dX3_digestWith_48 hl (k := 1) rfl (nI_1 _) (by decide) rfl (fun ls hl => ?_)
          refine lv_goto (tgt := 6) hx hb dX3_digestWith_51 (by decide) ?_
          exact ih1 (i + 1) _ (by omega) (by omega) (lv_sub hl [0, 1, 2, 3, 4, 5] rfl)
        · refine lv_iload_n hx hb dX3_digestWith_28 rfl (lv_at hl 5 rfl) ?_
          refine lv_goto (tgt := 39) hx hb dX3_digestWith_29 (by decide) ?_
          refine lv_iadd hx hb dX3_digestWith_39 ?_
          refine lv_iconst (v := 1) hx hb dX3_digestWith_40 (by decide +kernel) ?_
          refine lv_iadd hx hb dX3_digestWith_41 ?_
          refine lv_sipush (v := 8191) hx hb dX3_digestWith_42 (by decide +kernel) ?_
          refine lv_irem hx hb dX3_digestWith_45 (by decide +kernel) ?_
          refine lv_toI (z := dgF (wdV V k x o) (i + 1)) (by first | (rw [dgF, wdV_no c25]; rfl) | (rw [dgF, wdV_yes c25]; rfl)) ?_
          refine lv_istore (lv' := [(4, .int (dgF (wdV V k x o) (i + 1))), (5, .int (nI i)), (0, .ref (h)), (1, .int (nI k)), (2, .int (x)), (3, .int (o))]) hx hb dX3_digestWith_46 hl (by decide) rfl (fun ls hl => ?_)
          refine lv_iinc (v := nI (i + 1)) (lv' := [(5, .int (nI (i + 1))), (4, .int (dgF (wdV V k x o) (i + 1))), (0, .ref (h)), (1, .int (nI k)), (2, .int (x)), (3, .int (o))]) hx hb dX3_digestWith_48 hl (k := 1) rfl (nI_1 _) (by decide) rfl (fun ls hl => ?_)
          refine lv_goto (tgt := 6) hx hb dX3_digestWith_51 (by decide) ?_
          exact ih1 (i + 1) _ (by omega) (by omega) (lv_sub hl [0, 1, 2, 3, 4, 5] rfl)
  exact L6 (NN k + 1) (0) _ (by omega) (by omega) (lv_sub hl [0, 1, 2, 3, 4, 5] rfl)

set_option maxHeartbeats 4000000 in
set_option maxRecDepth 100000 in
/-- digestNow -/
theorem c_X3_digestNow (l : Launch) (g : gT) (h : Nat) (X : Nat → Nat) (V : Nat → Nat → Int32) (th : Int32) (lc ec : Nat) (NN : Nat → Nat) (hlc : lc ≤ 12) (hec : ec ≤ 24) (hNN : ∀ i, i < lc → V 0 i = nI (NN i) ∧ NN i ≤ 40) (k : Nat) (hk : k < lc) : pM g l yX3_digestNow wsX3_digestNow { frames := 2, cells := 0, slots := 0, locals := 47 } [.ref (h), .int (nI k)] (fun H => va_P (gD g) vwCl (mdW g h X V th lc ec) H) (.int (dgF (rwV V k) (NN k))) := by
  refine pu_ofI (cc := cX3_digestNow) (maxL := 2) (by decide) rfl (Nat.le_of_ble_eq_true rfl) ?_
  intro p e s m args below meth c H ls Q hx hb hml hts hown hK hP hl hret
  have hl : lv_has ls 2 [(0, .ref (h)), (1, .int (nI k))] := hl
  have S : CallFix p m c cX3_digestNow 2 s args wsX3_digestNow RX3 := ⟨hx, hb, hml, hown, hts⟩
  have hVn := (hNN k hk).1
  have hn := (hNN k hk).2
  refine lv_aload_n hx hb dX3_digestNow_0 rfl (lv_at hl 0 rfl) ?_
  refine lv_iload_n hx hb dX3_digestNow_1 rfl (lv_at hl 1 rfl) ?_
  refine lv_iconst (v := (-1)) hx hb dX3_digestNow_2 (by decide +kernel) ?_
  refine lv_iconst (v := 0) hx hb dX3_digestNow_3 (by decide +kernel) ?_
  refine p_V (As := [.int (nI k), .int ((-1)), .int (0)]) (rest := []) S (c_X3_digestWith l g h X V th lc ec NN hlc hec hNN k hk (-1) 0) (cwV 3 hts gX3_digestNow_X3_digestWith rfl rfl rfl (by decide +kernel) ⟨Nat.le_of_ble_eq_true rfl, Nat.le_of_ble_eq_true rfl⟩) hK (va_recv hK.1 hP (ci := 3) (q0 := 0) rfl rfl) (hP) rfl hl.1 rfl (Nat.le_of_ble_eq_true rfl) dX3_digestNow_4 ⟨Nat.le_of_ble_eq_true rfl, Nat.le_of_ble_eq_true rfl⟩ ?_
  refine lv_toI (z := dgF (rwV V k) (NN k)) (dgF_now (by omega)) ?_
  exact hret _ _ dX3_digestNow_7

set_option maxHeartbeats 4000000 in
set_option maxRecDepth 100000 in
/-- window -/
theorem c_X3_window (l : Launch) (g : gT) (h : Nat) (X : Nat → Nat) (V : Nat → Nat → Int32) (th : Int32) (lc ec : Nat) (NN : Nat → Nat) (hlc : lc ≤ 12) (hec : ec ≤ 24) (hNN : ∀ i, i < lc → V 0 i = nI (NN i) ∧ NN i ≤ 40) (k : Nat) (hk : k < lc) (o t : Nat) (ho : o + t ≤ 40) : pM g l yX3_window wsX3_window { frames := 1, cells := 0, slots := 0, locals := 22 } [.ref (h), .int (nI k), .int (nI o), .int (nI t)] (fun H => va_P (gD g) vwCl (mdW g h X V th lc ec) H) (.int (wnF (rwV V k) o t)) := by
  refine pu_ofI (cc := cX3_window) (maxL := 6) (by decide) rfl (Nat.le_of_ble_eq_true rfl) ?_
  intro p e s m args below meth c H ls Q hx hb hml hts hown hK hP hl hret
  have hl : lv_has ls 6 [(0, .ref (h)), (1, .int (nI k)), (2, .int (nI o)), (3, .int (nI t))] := hl
  have S : CallFix p m c cX3_window 6 s args wsX3_window RX3 := ⟨hx, hb, hml, hown, hts⟩
  refine lv_iconst (v := 0) hx hb dX3_window_0 (by decide +kernel) ?_
  refine lv_istore (lv' := [(4, .int (0)), (0, .ref (h)), (1, .int (nI k)), (2, .int (nI o)), (3, .int (nI t))]) hx hb dX3_window_1 hl (by decide) rfl (fun ls hl => ?_)
  refine lv_iload_n hx hb dX3_window_3 rfl (lv_at hl 3 rfl) ?_
  refine lv_istore (lv' := [(5, .int (nI o)), (4, .int (0)), (0, .ref (h)), (1, .int (nI k)), (2, .int (nI o)), (3, .int (nI t))]) hx hb dX3_window_4 hl (by decide) rfl (fun ls hl => ?_)
  have L6 : ∀ (k1 i : Nat) (ls : Array Slot), t - i < k1 → i ≤ t → lv_has ls 6 [(5, .int (nI (o + i))), (4, .int (wnF (rwV V k) o i)), (0, .ref (h)), (1, .int (nI k)), (2, .int (nI o)), (3, .int (nI t))] → W p l e { frames := 1, cells := 0, slots := 0, locals := 22 } s m args below meth c H [] 0 0 Q (F0 m 6 ls []) := by
    intro k1
    induction k1 with
    | zero => intro i ls hFu; exact absurd hFu (Nat.not_lt_zero _)
    | succ k1 ih1 =>
      intro i ls hFu hLe hl
      refine lv_iload hx hb dX3_window_6 (lv_at hl 0 rfl) ?_
      refine lv_iload_n hx hb dX3_window_8 rfl (lv_at hl 4 rfl) ?_
      refine lv_iload_n hx hb dX3_window_9 rfl (lv_at hl 5 rfl) ?_
      refine lv_iadd hx hb dX3_window_10 ?_
      refine lv_toI (z := nI (o + t)) (nI_add _ _) ?_
      refine br_ge (a := o + i) (b := o + t) (tgt := 40) hx hb (by omega) (by omega) dX3_window_11 (by decide) (fun c11 => ?_) (fun c11 => ?_)
      · have e_i : i = t := by omega
        rw [e_i] at hl
        refine lv_iload hx hb dX3_window_40 (lv_at hl 1 rfl) ?_
        exact hret _ _ dX3_window_42
      · refine lv_iload hx hb dX3_window_14 (lv_at hl 1 rfl) ?_
        refine lv_bipush (v := 7) hx hb dX3_window_16 (by decide +kernel) ?_
        refine lv_imul hx hb dX3_window_18 ?_
        refine lv_aload_n hx hb dX3_window_19 rfl (lv_at hl 2 rfl) ?_
        refine lv_iload_n hx hb dX3_window_20 rfl (lv_at hl 3 rfl) ?_
        refine lv_iload hx hb dX3_window_21 (lv_at hl 0 rfl) ?_
        refine p_V (As := [.int (nI k), .int (nI (o + i))]) (rest := [.int ((wnF (rwV V k) o i) * (7))]) S (c_X3_at l g h X V th lc ec (k) (o + i) (by omega) (by omega)) (cwV 2 hts gX3_window_X3_at rfl rfl rfl (by decide +kernel) ⟨Nat.le_of_ble_eq_true rfl, Nat.le_of_ble_eq_true rfl⟩) hK (va_recv hK.1 hP (ci := 3) (q0 := 0) rfl rfl) (hP) rfl hl.1 rfl (Nat.le_of_ble_eq_true rfl) dX3_window_23 ⟨Nat.le_of_ble_eq_true rfl, Nat.le_of_ble_eq_true rfl⟩ ?_
        refine lv_iadd hx hb dX3_window_26 ?_
        refine lv_iconst (v := 1) hx hb dX3_window_27 (by decide +kernel) ?_
        refine lv_iadd hx hb dX3_window_28 ?_
        refine lv_bipush (v := 97) hx hb dX3_window_29 (by decide +kernel) ?_
        refine lv_irem hx hb dX3_window_31 (by decide +kernel) ?_
        refine lv_toI (z := wnF (rwV V k) o (i + 1)) (rfl) ?_
        refine lv_istore (lv' := [(4, .int (wnF (rwV V k) o (i + 1))), (5, .int (nI (o + i))), (0, .ref (h)), (1, .int (nI k)), (2, .int (nI o)), (3, .int (nI t))]) hx hb dX3_window_32 hl (by decide) rfl (fun ls hl => ?_)
        refine lv_iinc (v := nI (o + i + 1)) (lv' := [(5, .int (nI (o + i + 1))), (4, .int (wnF (rwV V k) o (i + 1))), (0, .ref (h)), (1, .int (nI k)), (2, .int (nI o)), (3, .int (nI t))]) hx hb dX3_window_34 hl (k := 1) rfl (nI_1 _) (by decide) rfl (fun ls hl => ?_)
        refine lv_goto (tgt := 6) hx hb dX3_window_37 (by decide) ?_
        exact ih1 (i + 1) _ (by omega) (by omega) (lv_sub hl [0, 1, 2, 3, 4, 5] rfl)
  exact L6 (t + 1) (0) _ (by omega) (by omega) (lv_sub hl [0, 1, 2, 3, 4, 5] rfl)

set_option maxHeartbeats 4000000 in
set_option maxRecDepth 100000 in
/-- blocksOf -/
theorem c_X3_blocksOf (l : Launch) (g : gT) (n : Nat) (hn : n ≤ 40) : pM g l yX3_blocksOf wsX3_blocksOf { frames := 0, cells := 0, slots := 0, locals := 0 } [.int (nI n)] (fun _ => True) (.int (nI ((n + 4) / 5))) := by
  refine pu_ofI (cc := cX3_blocksOf) (maxL := 1) (by decide) rfl (Nat.le_of_ble_eq_true rfl) ?_
  intro p e s m args below meth c H ls Q hx hb hml hts hown hK hP hl hret
  have hl : lv_has ls 1 [(0, .int (nI n))] := hl
  have S : CallFix p m c cX3_blocksOf 1 s args wsX3_blocksOf RX3 := ⟨hx, hb, hml, hown, hts⟩
  refine lv_iload_n hx hb dX3_blocksOf_0 rfl (lv_at hl 0 rfl) ?_
  refine lv_iconst (v := nI (5)) hx hb dX3_blocksOf_1 (by decide +kernel) ?_
  refine lv_iadd hx hb dX3_blocksOf_2 ?_
  refine lv_toI (z := nI (n + 5)) (nI_add _ _) ?_
  refine lv_iconst (v := nI (1)) hx hb dX3_blocksOf_3 (by decide +kernel) ?_
  refine lv_isub hx hb dX3_blocksOf_4 ?_
  refine lv_toI (z := nI (n + 5 - 1)) (pk_sub (by omega)) ?_
  refine lv_iconst (v := nI (5)) hx hb dX3_blocksOf_5 (by decide +kernel) ?_
  refine lv_idiv hx hb dX3_blocksOf_6 (by decide +kernel) ?_
  refine lv_toI (z := nI ((n + 4) / 5)) (by rw [show n + 5 - 1 = n + 4 by omega, pk_div (by omega) (by omega) (by omega)]) ?_
  exact hret _ _ dX3_blocksOf_7

set_option maxHeartbeats 4000000 in
set_option maxRecDepth 100000 in
/-- block -/
theorem c_X3_block (l : Launch) (g : gT) (h : Nat) (X : Nat → Nat) (V : Nat → Nat → Int32) (th : Int32) (lc ec : Nat) (NN : Nat → Nat) (hlc : lc ≤ 12) (hec : ec ≤ 24) (hNN : ∀ i, i < lc → V 0 i = nI (NN i) ∧ NN i ≤ 40) (k : Nat) (hk : k < lc) (q : Nat) (hq : q < 8) : pM g l yX3_block wsX3_block { frames := 1, cells := 0, slots := 0, locals := 22 } [.ref (h), .int (nI k), .int (nI q)] (fun H => va_P (gD g) vwCl (mdW g h X V th lc ec) H) (.int (blF (rwV V k) (NN k) q)) := by
  refine pu_ofI (cc := cX3_block) (maxL := 5) (by decide) rfl (Nat.le_of_ble_eq_true rfl) ?_
  intro p e s m args below meth c H ls Q hx hb hml hts hown hK hP hl hret
  have hl : lv_has ls 5 [(0, .ref (h)), (1, .int (nI k)), (2, .int (nI q))] := hl
  have S : CallFix p m c cX3_block 5 s args wsX3_block RX3 := ⟨hx, hb, hml, hown, hts⟩
  have hVn := (hNN k hk).1
  have hn := (hNN k hk).2
  have hbl : blN (NN k) q ≤ 5 := by unfold blN; omega
  have iX3 : ∀ w ∈ u_ws RX3 TX3 12, w ∈ wsX3_block := by decide +kernel
  have f9 := hts (.fieldLink RX3 9 "LetterSealsModel" "many" "[I") (by decide +kernel)
  refine lv_iconst (v := 0) hx hb dX3_block_0 (by decide +kernel) ?_
  refine lv_istore_n (lv' := [(3, .int (0)), (0, .ref (h)), (1, .int (nI k)), (2, .int (nI q))]) hx hb dX3_block_1 rfl hl (by decide) rfl (fun ls hl => ?_)
  refine lv_iconst (v := nI (0)) hx hb dX3_block_2 (by decide +kernel) ?_
  refine lv_istore (lv' := [(4, .int (nI (0))), (3, .int (0)), (0, .ref (h)), (1, .int (nI k)), (2, .int (nI q))]) hx hb dX3_block_3 hl (by decide) rfl (fun ls hl => ?_)
  have L5 : ∀ (k1 i : Nat) (ls : Array Slot), (blN (NN k) q) - i < k1 → i ≤ (blN (NN k) q) → lv_has ls 5 [(4, .int (nI i)), (3, .int (bspF (rwV V k) (q * 5) i)), (0, .ref (h)), (1, .int (nI k)), (2, .int (nI q))] → W p l e { frames := 1, cells := 0, slots := 0, locals := 22 } s m args below meth c H [] 0 0 Q (F0 m 5 ls []) := by
    intro k1
    induction k1 with
    | zero => intro i ls hFu; exact absurd hFu (Nat.not_lt_zero _)
    | succ k1 ih1 =>
      intro i ls hFu hLe hl
      refine lv_iload hx hb dX3_block_5 (lv_at hl 0 rfl) ?_
      refine lv_iconst (v := nI (5)) hx hb dX3_block_7 (by decide +kernel) ?_
      refine br_ge (a := i) (b := 5) (tgt := 51) hx hb (by omega) (by omega) dX3_block_8 (by decide) (fun c8 => ?_) (fun c8 => ?_)
      · have e_i : i = (blN (NN k) q) := by unfold blN at *; omega
        rw [e_i] at hl
        refine lv_iload_n hx hb dX3_block_51 rfl (lv_at hl 1 rfl) ?_
        refine lv_bipush (v := 32) hx hb dX3_block_52 (by decide +kernel) ?_
        refine lv_irem hx hb dX3_block_54 (by decide +kernel) ?_
        refine lv_toI (z := blF (rwV V k) (NN k) q) (rfl) ?_
        exact hret _ _ dX3_block_55
      · refine lv_iconst (v := nI (5)) hx hb dX3_block_11 (by decide +kernel) ?_
        refine lv_iload_n hx hb dX3_block_12 rfl (lv_at hl 4 rfl) ?_
        refine lv_imul hx hb dX3_block_13 ?_
        refine lv_toI (z := nI (5 * q)) (pk_mul _ _) ?_
        refine lv_iload hx hb dX3_block_14 (lv_at hl 0 rfl) ?_
        refine lv_iadd hx hb dX3_block_16 ?_
        refine lv_toI (z := nI (5 * q + i)) (nI_add _ _) ?_
        refine lv_aload_n hx hb dX3_block_17 rfl (lv_at hl 2 rfl) ?_
        refine va_get (D := gD g) (ci := 3) (v := .ref (X 0)) (C := RX3) (T := TX3) (N := 12) hx hb hts iX3 hown hK.1 hP 0 rfl rfl 2 (by decide) f9 (fun _ h9 => h9) rfl dX3_block_18 ?_
        refine lv_iload_n hx hb dX3_block_21 rfl (lv_at hl 3 rfl) ?_
        refine ld_I (k := k) (n := 12) (f := V 0) hx hb hK.1 hP 1 rfl (by omega) (by omega) dX3_block_22 ?_
        refine lv_toI (z := nI (NN k)) (hVn) ?_
        refine br_ge (a := 5 * q + i) (b := NN k) (tgt := 51) hx hb (by omega) (by omega) dX3_block_23 (by decide) (fun c23 => ?_) (fun c23 => ?_)
        · have e_i : i = (blN (NN k) q) := by unfold blN at *; omega
          rw [e_i] at hl
          refine lv_iload_n hx hb dX3_block_51 rfl (lv_at hl 1 rfl) ?_
          refine lv_bipush (v := 32) hx hb dX3_block_52 (by decide +kernel) ?_
          refine lv_irem hx hb dX3_block_54 (by decide +kernel) ?_
          refine lv_toI (z := blF (rwV V k) (NN k) q) (rfl) ?_
          exact hret _ _ dX3_block_55
        · have hlt : i < blN (NN k) q := by unfold blN; omega
          refine lv_iload_n hx hb dX3_block_26 rfl (lv_at hl 1 rfl) ?_
          refine lv_iload hx hb dX3_block_27 (lv_at hl 0 rfl) ?_
          refine lv_iconst (v := nI (1)) hx hb dX3_block_29 (by decide +kernel) ?_
          refine lv_iadd hx hb dX3_block_30 ?_
          refine lv_toI (z := nI (i + 1)) (nI_add _ _) ?_
          refine lv_aload_n hx hb dX3_block_31 rfl (lv_at hl 2 rfl) ?_
          refine lv_iload_n hx hb dX3_block_32 rfl (lv_at hl 3 rfl) ?_
          refine lv_iconst (v := nI (5)) hx hb dX3_block_33 (by decide +kernel) ?_
          refine lv_iload_n hx hb dX3_block_34 rfl (lv_at hl 4 rfl) ?_
          refine lv_imul hx hb dX3_block_35 ?_
          refine lv_toI (z := nI (5 * q)) (pk_mul _ _) ?_
          refine lv_iload hx hb dX3_block_36 (lv_at hl 0 rfl) ?_
          refine lv_iadd hx hb dX3_block_38 ?_
          refine lv_toI (z := nI (5 * q + i)) (nI_add _ _) ?_
          refine p_V (As := [.int (nI k), .int (nI (5 * q + i))]) (rest := [.int (nI (i + 1)), .int (bspF (rwV V k) (q * 5) i)]) S (c_X3_at l g h X V th lc ec (k) (5 * q + i) (by omega) (by omega)) (cwV 2 hts gX3_block_X3_at rfl rfl rfl (by decide +kernel) ⟨Nat.le_of_ble_eq_true rfl, Nat.le_of_ble_eq_true rfl⟩) hK (va_recv hK.1 hP (ci := 3) (q0 := 0) rfl rfl) (hP) rfl hl.1 rfl (Nat.le_of_ble_eq_true rfl) dX3_block_39 ⟨Nat.le_of_ble_eq_true rfl, Nat.le_of_ble_eq_true rfl⟩ ?_
          refine lv_imul hx hb dX3_block_42 ?_
          refine lv_iadd hx hb dX3_block_43 ?_
          refine lv_toI (z := bspF (rwV V k) (q * 5) (i + 1)) (by rw [bspF, Nat.mul_comm q 5]) ?_
          refine lv_istore_n (lv' := [(3, .int (bspF (rwV V k) (q * 5) (i + 1))), (4, .int (nI i)), (0, .ref (h)), (1, .int (nI k)), (2, .int (nI q))]) hx hb dX3_block_44 rfl hl (by decide) rfl (fun ls hl => ?_)
          refine lv_iinc (v := nI (i + 1)) (lv' := [(4, .int (nI (i + 1))), (3, .int (bspF (rwV V k) (q * 5) (i + 1))), (0, .ref (h)), (1, .int (nI k)), (2, .int (nI q))]) hx hb dX3_block_45 hl (k := 1) rfl (nI_1 _) (by decide) rfl (fun ls hl => ?_)
          refine lv_goto (tgt := 5) hx hb dX3_block_48 (by decide) ?_
          exact ih1 (i + 1) _ (by omega) (by omega) (lv_sub hl [0, 1, 2, 3, 4] rfl)
  exact L5 ((blN (NN k) q) + 1) (0) _ (by omega) (by omega) (lv_sub hl [0, 1, 2, 3, 4] rfl)

set_option maxHeartbeats 4000000 in
set_option maxRecDepth 100000 in
/-- sum, 0 -/
theorem c_X3_sum0 (l : Launch) (g : gT) (h : Nat) (X : Nat → Nat) (V : Nat → Nat → Int32) (th : Int32) (lc ec : Nat) (NN : Nat → Nat) (hlc : lc ≤ 12) (hec : ec ≤ 24) (hNN : ∀ i, i < lc → V 0 i = nI (NN i) ∧ NN i ≤ 40) (k : Nat) (hk : k < lc) : pM g l yX3_sum wsX3_sum { frames := 1, cells := 0, slots := 0, locals := 22 } [.ref (h), .int (nI k), .int (0)] (fun H => va_P (gD g) vwCl (mdW g h X V th lc ec) H) (.int (smF (rwV V k) (NN k))) := by
  refine pu_ofI (cc := cX3_sum) (maxL := 5) (by decide) rfl (Nat.le_of_ble_eq_true rfl) ?_
  intro p e s m args below meth c H ls Q hx hb hml hts hown hK hP hl hret
  have hl : lv_has ls 5 [(0, .ref (h)), (1, .int (nI k)), (2, .int (0))] := hl
  have S : CallFix p m c cX3_sum 5 s args wsX3_sum RX3 := ⟨hx, hb, hml, hown, hts⟩
  have hVn := (hNN k hk).1
  have hn := (hNN k hk).2
  have iX3 : ∀ w ∈ u_ws RX3 TX3 12, w ∈ wsX3_sum := by decide +kernel
  have f9 := hts (.fieldLink RX3 9 "LetterSealsModel" "many" "[I") (by decide +kernel)
  refine lv_iconst (v := 0) hx hb dX3_sum_0 (by decide +kernel) ?_
  refine lv_istore_n (lv' := [(3, .int (0)), (0, .ref (h)), (1, .int (nI k)), (2, .int (0))]) hx hb dX3_sum_1 rfl hl (by decide) rfl (fun ls hl => ?_)
  refine lv_iconst (v := nI (0)) hx hb dX3_sum_2 (by decide +kernel) ?_
  refine lv_istore (lv' := [(4, .int (nI (0))), (3, .int (0)), (0, .ref (h)), (1, .int (nI k)), (2, .int (0))]) hx hb dX3_sum_3 hl (by decide) rfl (fun ls hl => ?_)
  have L5 : ∀ (k1 i : Nat) (ls : Array Slot), NN k - i < k1 → i ≤ NN k → lv_has ls 5 [(4, .int (nI i)), (3, .int (smF (rwV V k) i)), (0, .ref (h)), (1, .int (nI k)), (2, .int (0))] → W p l e { frames := 1, cells := 0, slots := 0, locals := 22 } s m args below meth c H [] 0 0 Q (F0 m 5 ls []) := by
    intro k1
    induction k1 with
    | zero => intro i ls hFu; exact absurd hFu (Nat.not_lt_zero _)
    | succ k1 ih1 =>
      intro i ls hFu hLe hl
      refine lv_iload hx hb dX3_sum_5 (lv_at hl 0 rfl) ?_
      refine lv_aload_n hx hb dX3_sum_7 rfl (lv_at hl 2 rfl) ?_
      refine va_get (D := gD g) (ci := 3) (v := .ref (X 0)) (C := RX3) (T := TX3) (N := 12) hx hb hts iX3 hown hK.1 hP 0 rfl rfl 2 (by decide) f9 (fun _ h9 => h9) rfl dX3_sum_8 ?_
      refine lv_iload_n hx hb dX3_sum_11 rfl (lv_at hl 3 rfl) ?_
      refine ld_I (k := k) (n := 12) (f := V 0) hx hb hK.1 hP 1 rfl (by omega) (by omega) dX3_sum_12 ?_
      refine lv_toI (z := nI (NN k)) (hVn) ?_
      refine br_ge (a := i) (b := NN k) (tgt := 51) hx hb (by omega) (by omega) dX3_sum_13 (by decide) (fun c13 => ?_) (fun c13 => ?_)
      · have e_i : i = NN k := by omega
        rw [e_i] at hl
        refine lv_iload_n hx hb dX3_sum_51 rfl (lv_at hl 1 rfl) ?_
        exact hret _ _ dX3_sum_52
      · refine lv_iload_n hx hb dX3_sum_16 rfl (lv_at hl 1 rfl) ?_
        refine lv_iload_n hx hb dX3_sum_17 rfl (lv_at hl 4 rfl) ?_
        refine lv_if_eq (tgt := 36) hx hb dX3_sum_18 (by decide) (fun c18 => ?_) (fun c18 => ?_)
        · refine lv_aload_n hx hb dX3_sum_36 rfl (lv_at hl 2 rfl) ?_
          refine lv_iload_n hx hb dX3_sum_37 rfl (lv_at hl 3 rfl) ?_
          refine lv_iload hx hb dX3_sum_38 (lv_at hl 0 rfl) ?_
          refine p_V (As := [.int (nI k), .int (nI i)]) (rest := [.int (smF (rwV V k) i)]) S (c_X3_at l g h X V th lc ec (k) (i) (by omega) (by omega)) (cwV 2 hts gX3_sum_X3_at rfl rfl rfl (by decide +kernel) ⟨Nat.le_of_ble_eq_true rfl, Nat.le_of_ble_eq_true rfl⟩) hK (va_recv hK.1 hP (ci := 3) (q0 := 0) rfl rfl) (hP) rfl hl.1 rfl (Nat.le_of_ble_eq_true rfl) dX3_sum_40 ⟨Nat.le_of_ble_eq_true rfl, Nat.le_of_ble_eq_true rfl⟩ ?_
          refine lv_iadd hx hb dX3_sum_43 ?_
          refine lv_toI (z := smF (rwV V k) (i + 1)) (rfl) ?_
          refine lv_istore_n (lv' := [(3, .int (smF (rwV V k) (i + 1))), (4, .int (nI i)), (0, .ref (h)), (1, .int (nI k)), (2, .int (0))]) hx hb dX3_sum_44 rfl hl (by decide) rfl (fun ls hl => ?_)
          refine lv_iinc (v := nI (i + 1)) (lv' := [(4, .int (nI (i + 1))), (3, .int (smF (rwV V k) (i + 1))), (0, .ref (h)), (1, .int (nI k)), (2, .int (0))]) hx hb dX3_sum_45 hl (k := 1) rfl (nI_1 _) (by decide) rfl (fun ls hl => ?_)
          refine lv_goto (tgt := 5) hx hb dX3_sum_48 (by decide) ?_
          exact ih1 (i + 1) _ (by omega) (by omega) (lv_sub hl [0, 1, 2, 3, 4] rfl)
        · exact absurd rfl c18
  exact L5 (NN k + 1) (0) _ (by omega) (by omega) (lv_sub hl [0, 1, 2, 3, 4] rfl)

set_option maxHeartbeats 4000000 in
set_option maxRecDepth 100000 in
/-- sum, 1 -/
theorem c_X3_sum1 (l : Launch) (g : gT) (h : Nat) (X : Nat → Nat) (V : Nat → Nat → Int32) (th : Int32) (lc ec : Nat) (NN : Nat → Nat) (hlc : lc ≤ 12) (hec : ec ≤ 24) (hNN : ∀ i, i < lc → V 0 i = nI (NN i) ∧ NN i ≤ 40) (k : Nat) (hk : k < lc) : pM g l yX3_sum wsX3_sum { frames := 1, cells := 0, slots := 0, locals := 22 } [.ref (h), .int (nI k), .int (1)] (fun H => va_P (gD g) vwCl (mdW g h X V th lc ec) H) (.int (wtF (rwV V k) (NN k))) := by
  refine pu_ofI (cc := cX3_sum) (maxL := 5) (by decide) rfl (Nat.le_of_ble_eq_true rfl) ?_
  intro p e s m args below meth c H ls Q hx hb hml hts hown hK hP hl hret
  have hl : lv_has ls 5 [(0, .ref (h)), (1, .int (nI k)), (2, .int (1))] := hl
  have S : CallFix p m c cX3_sum 5 s args wsX3_sum RX3 := ⟨hx, hb, hml, hown, hts⟩
  have hVn := (hNN k hk).1
  have hn := (hNN k hk).2
  have iX3 : ∀ w ∈ u_ws RX3 TX3 12, w ∈ wsX3_sum := by decide +kernel
  have f9 := hts (.fieldLink RX3 9 "LetterSealsModel" "many" "[I") (by decide +kernel)
  refine lv_iconst (v := 0) hx hb dX3_sum_0 (by decide +kernel) ?_
  refine lv_istore_n (lv' := [(3, .int (0)), (0, .ref (h)), (1, .int (nI k)), (2, .int (1))]) hx hb dX3_sum_1 rfl hl (by decide) rfl (fun ls hl => ?_)
  refine lv_iconst (v := nI (0)) hx hb dX3_sum_2 (by decide +kernel) ?_
  refine lv_istore (lv' := [(4, .int (nI (0))), (3, .int (0)), (0, .ref (h)), (1, .int (nI k)), (2, .int (1))]) hx hb dX3_sum_3 hl (by decide) rfl (fun ls hl => ?_)
  have L5 : ∀ (k1 i : Nat) (ls : Array Slot), NN k - i < k1 → i ≤ NN k → lv_has ls 5 [(4, .int (nI i)), (3, .int (wtF (rwV V k) i)), (0, .ref (h)), (1, .int (nI k)), (2, .int (1))] → W p l e { frames := 1, cells := 0, slots := 0, locals := 22 } s m args below meth c H [] 0 0 Q (F0 m 5 ls []) := by
    intro k1
    induction k1 with
    | zero => intro i ls hFu; exact absurd hFu (Nat.not_lt_zero _)
    | succ k1 ih1 =>
      intro i ls hFu hLe hl
      refine lv_iload hx hb dX3_sum_5 (lv_at hl 0 rfl) ?_
      refine lv_aload_n hx hb dX3_sum_7 rfl (lv_at hl 2 rfl) ?_
      refine va_get (D := gD g) (ci := 3) (v := .ref (X 0)) (C := RX3) (T := TX3) (N := 12) hx hb hts iX3 hown hK.1 hP 0 rfl rfl 2 (by decide) f9 (fun _ h9 => h9) rfl dX3_sum_8 ?_
      refine lv_iload_n hx hb dX3_sum_11 rfl (lv_at hl 3 rfl) ?_
      refine ld_I (k := k) (n := 12) (f := V 0) hx hb hK.1 hP 1 rfl (by omega) (by omega) dX3_sum_12 ?_
      refine lv_toI (z := nI (NN k)) (hVn) ?_
      refine br_ge (a := i) (b := NN k) (tgt := 51) hx hb (by omega) (by omega) dX3_sum_13 (by decide) (fun c13 => ?_) (fun c13 => ?_)
      · have e_i : i = NN k := by omega
        rw [e_i] at hl
        refine lv_iload_n hx hb dX3_sum_51 rfl (lv_at hl 1 rfl) ?_
        exact hret _ _ dX3_sum_52
      · refine lv_iload_n hx hb dX3_sum_16 rfl (lv_at hl 1 rfl) ?_
        refine lv_iload_n hx hb dX3_sum_17 rfl (lv_at hl 4 rfl) ?_
        refine lv_if_eq (tgt := 36) hx hb dX3_sum_18 (by decide) (fun c18 => ?_) (fun c18 => ?_)
        · exact absurd c18 (by decide +kernel)
        · refine lv_iload hx hb dX3_sum_21 (lv_at hl 0 rfl) ?_
          refine lv_iconst (v := nI (1)) hx hb dX3_sum_23 (by decide +kernel) ?_
          refine lv_iadd hx hb dX3_sum_24 ?_
          refine lv_toI (z := nI (i + 1)) (nI_add _ _) ?_
          refine lv_aload_n hx hb dX3_sum_25 rfl (lv_at hl 2 rfl) ?_
          refine lv_iload_n hx hb dX3_sum_26 rfl (lv_at hl 3 rfl) ?_
          refine lv_iload hx hb dX3_sum_27 (lv_at hl 0 rfl) ?_
          refine p_V (As := [.int (nI k), .int (nI i)]) (rest := [.int (nI (i + 1)), .int (wtF (rwV V k) i)]) S (c_X3_at l g h X V th lc ec (k) (i) (by omega) (by omega)) (cwV 2 hts gX3_sum_X3_at rfl rfl rfl (by decide +kernel) ⟨Nat.le_of_ble_eq_true rfl, Nat.le_of_ble_eq_true rfl⟩) hK (va_recv hK.1 hP (ci := 3) (q0 := 0) rfl rfl) (hP) rfl hl.1 rfl (Nat.le_of_ble_eq_true rfl) dX3_sum_29 ⟨Nat.le_of_ble_eq_true rfl, Nat.le_of_ble_eq_true rfl⟩ ?_
          refine lv_imul hx hb dX3_sum_32 ?_
          refine lv_goto (tgt := 43) hx hb dX3_sum_33 (by decide) ?_
          refine lv_iadd hx hb dX3_sum_43 ?_
          refine lv_toI (z := wtF (rwV V k) (i + 1)) (by rw [wtF, Int32.mul_comm]) ?_
          refine lv_istore_n (lv' := [(3, .int (wtF (rwV V k) (i + 1))), (4, .int (nI i)), (0, .ref (h)), (1, .int (nI k)), (2, .int (1))]) hx hb dX3_sum_44 rfl hl (by decide) rfl (fun ls hl => ?_)
          refine lv_iinc (v := nI (i + 1)) (lv' := [(4, .int (nI (i + 1))), (3, .int (wtF (rwV V k) (i + 1))), (0, .ref (h)), (1, .int (nI k)), (2, .int (1))]) hx hb dX3_sum_45 hl (k := 1) rfl (nI_1 _) (by decide) rfl (fun ls hl => ?_)
          refine lv_goto (tgt := 5) hx hb dX3_sum_48 (by decide) ?_
          exact ih1 (i + 1) _ (by omega) (by omega) (lv_sub hl [0, 1, 2, 3, 4] rfl)
  exact L5 (NN k + 1) (0) _ (by omega) (by omega) (lv_sub hl [0, 1, 2, 3, 4] rfl)

set_option maxHeartbeats 4000000 in
set_option maxRecDepth 100000 in
/-- count -/
theorem c_X3_count (l : Launch) (g : gT) (h : Nat) (X : Nat → Nat) (V : Nat → Nat → Int32) (th : Int32) (lc ec : Nat) (NN : Nat → Nat) (hlc : lc ≤ 12) (hec : ec ≤ 24) (hNN : ∀ i, i < lc → V 0 i = nI (NN i) ∧ NN i ≤ 40) (k : Nat) (hk : k < lc) (x : Int32) : pM g l yX3_count wsX3_count { frames := 1, cells := 0, slots := 0, locals := 22 } [.ref (h), .int (nI k), .int (x)] (fun H => va_P (gD g) vwCl (mdW g h X V th lc ec) H) (.int (cntF (rwV V k) x (NN k))) := by
  refine pu_ofI (cc := cX3_count) (maxL := 5) (by decide) rfl (Nat.le_of_ble_eq_true rfl) ?_
  intro p e s m args below meth c H ls Q hx hb hml hts hown hK hP hl hret
  have hl : lv_has ls 5 [(0, .ref (h)), (1, .int (nI k)), (2, .int (x))] := hl
  have S : CallFix p m c cX3_count 5 s args wsX3_count RX3 := ⟨hx, hb, hml, hown, hts⟩
  have hVn := (hNN k hk).1
  have hn := (hNN k hk).2
  have iX3 : ∀ w ∈ u_ws RX3 TX3 12, w ∈ wsX3_count := by decide +kernel
  have f9 := hts (.fieldLink RX3 9 "LetterSealsModel" "many" "[I") (by decide +kernel)
  refine lv_iconst (v := 0) hx hb dX3_count_0 (by decide +kernel) ?_
  refine lv_istore_n (lv' := [(3, .int (0)), (0, .ref (h)), (1, .int (nI k)), (2, .int (x))]) hx hb dX3_count_1 rfl hl (by decide) rfl (fun ls hl => ?_)
  refine lv_iconst (v := nI (0)) hx hb dX3_count_2 (by decide +kernel) ?_
  refine lv_istore (lv' := [(4, .int (nI (0))), (3, .int (0)), (0, .ref (h)), (1, .int (nI k)), (2, .int (x))]) hx hb dX3_count_3 hl (by decide) rfl (fun ls hl => ?_)
  have L5 : ∀ (k1 i : Nat) (ls : Array Slot), NN k - i < k1 → i ≤ NN k → lv_has ls 5 [(4, .int (nI i)), (3, .int (cntF (rwV V k) x i)), (0, .ref (h)), (1, .int (nI k)), (2, .int (x))] → W p l e { frames := 1, cells := 0, slots := 0, locals := 22 } s m args below meth c H [] 0 0 Q (F0 m 5 ls []) := by
    intro k1
    induction k1 with
    | zero => intro i ls hFu; exact absurd hFu (Nat.not_lt_zero _)
    | succ k1 ih1 =>
      intro i ls hFu hLe hl
      refine lv_iload hx hb dX3_count_5 (lv_at hl 0 rfl) ?_
      refine lv_aload_n hx hb dX3_count_7 rfl (lv_at hl 2 rfl) ?_
      refine va_get (D := gD g) (ci := 3) (v := .ref (X 0)) (C := RX3) (T := TX3) (N := 12) hx hb hts iX3 hown hK.1 hP 0 rfl rfl 2 (by decide) f9 (fun _ h9 => h9) rfl dX3_count_8 ?_
      refine lv_iload_n hx hb dX3_count_11 rfl (lv_at hl 3 rfl) ?_
      refine ld_I (k := k) (n := 12) (f := V 0) hx hb hK.1 hP 1 rfl (by omega) (by omega) dX3_count_12 ?_
      refine lv_toI (z := nI (NN k)) (hVn) ?_
      refine br_ge (a := i) (b := NN k) (tgt := 41) hx hb (by omega) (by omega) dX3_count_13 (by decide) (fun c13 => ?_) (fun c13 => ?_)
      · have e_i : i = NN k := by omega
        rw [e_i] at hl
        refine lv_iload_n hx hb dX3_count_41 rfl (lv_at hl 1 rfl) ?_
        exact hret _ _ dX3_count_42
      · refine lv_iload_n hx hb dX3_count_16 rfl (lv_at hl 1 rfl) ?_
        refine lv_aload_n hx hb dX3_count_17 rfl (lv_at hl 2 rfl) ?_
        refine lv_iload_n hx hb dX3_count_18 rfl (lv_at hl 3 rfl) ?_
        refine lv_iload hx hb dX3_count_19 (lv_at hl 0 rfl) ?_
        refine p_V (As := [.int (nI k), .int (nI i)]) (rest := [.int (cntF (rwV V k) x i)]) S (c_X3_at l g h X V th lc ec (k) (i) (by omega) (by omega)) (cwV 2 hts gX3_count_X3_at rfl rfl rfl (by decide +kernel) ⟨Nat.le_of_ble_eq_true rfl, Nat.le_of_ble_eq_true rfl⟩) hK (va_recv hK.1 hP (ci := 3) (q0 := 0) rfl rfl) (hP) rfl hl.1 rfl (Nat.le_of_ble_eq_true rfl) dX3_count_21 ⟨Nat.le_of_ble_eq_true rfl, Nat.le_of_ble_eq_true rfl⟩ ?_
        refine lv_iload_n hx hb dX3_count_24 rfl (lv_at hl 4 rfl) ?_
        refine lv_icmp_ne (tgt := 32) hx hb dX3_count_25 (by decide) (fun c25 => ?_) (fun c25 => ?_)
        · refine lv_iconst (v := 0) hx hb dX3_count_32 (by decide +kernel) ?_
          refine lv_iadd hx hb dX3_count_33 ?_
          refine lv_toI (z := cntF (rwV V k) x (i + 1)) (by first | (rw [cntF, if_neg c25, Int32.add_zero]; done) | (rw [cntF, if_pos c25]; done)) ?_
          refine lv_istore_n (lv' := [(3, .int (cntF (rwV V k) x (i + 1))), (4, .int (nI i)), (0, .ref (h)), (1, .int (nI k)), (2, .int (x))]) hx hb dX3_count_34 rfl hl (by decide) rfl (fun ls hl => ?_)
          refine lv_iinc (v := nI (i + 1)) (lv' := [(4, .int (nI (i + 1))), (3, .int (cntF (rwV V k) x (i + 1))), (0, .ref (h)), (1, .int (nI k)), (2, .int (x))]) hx hb dX3_count_35 hl (k := 1) rfl (nI_1 _) (by decide) rfl (fun ls hl => ?_)
          refine lv_goto (tgt := 5) hx hb dX3_count_38 (by decide) ?_
          exact ih1 (i + 1) _ (by omega) (by omega) (lv_sub hl [0, 1, 2, 3, 4] rfl)
        · refine lv_iconst (v := 1) hx hb dX3_count_28 (by decide +kernel) ?_
          refine lv_goto (tgt := 33) hx hb dX3_count_29 (by decide) ?_
          refine lv_iadd hx hb dX3_count_33 ?_
          refine lv_toI (z := cntF (rwV V k) x (i + 1)) (by first | (rw [cntF, if_neg c25, Int32.add_zero]; done) | (rw [cntF, if_pos c25]; done)) ?_
          refine lv_istore_n (lv' := [(3, .int (cntF (rwV V k) x (i + 1))), (4, .int (nI i)), (0, .ref (h)), (1, .int (nI k)), (2, .int (x))]) hx hb dX3_count_34 rfl hl (by decide) rfl (fun ls hl => ?_)
          refine lv_iinc (v := nI (i + 1)) (lv' := [(4, .int (nI (i + 1))), (3, .int (cntF (rwV V k) x (i + 1))), (0, .ref (h)), (1, .int (nI k)), (2, .int (x))]) hx hb dX3_count_35 hl (k := 1) rfl (nI_1 _) (by decide) rfl (fun ls hl => ?_)
          refine lv_goto (tgt := 5) hx hb dX3_count_38 (by decide) ?_
          exact ih1 (i + 1) _ (by omega) (by omega) (lv_sub hl [0, 1, 2, 3, 4] rfl)
  exact L5 (NN k + 1) (0) _ (by omega) (by omega) (lv_sub hl [0, 1, 2, 3, 4] rfl)

set_option maxHeartbeats 4000000 in
set_option maxRecDepth 100000 in
/-- sealWith -/
theorem c_X3_sealWith (l : Launch) (g : gT) (h : Nat) (X : Nat → Nat) (V : Nat → Nat → Int32) (th : Int32) (lc ec : Nat) (x : Int32) (hec : ec ≤ 24) : pM g l yX3_sealWith wsX3_sealWith { frames := 0, cells := 0, slots := 0, locals := 0 } [.ref (h), .int (x)] (fun H => va_P (gD g) vwCl (mdW g h X V th lc ec) H) (.int (slF (lsV (V 8) ec) x)) := by
  refine pu_ofI (cc := cX3_sealWith) (maxL := 2) (by decide) rfl (Nat.le_of_ble_eq_true rfl) ?_
  intro p e s m args below meth c H ls Q hx hb hml hts hown hK hP hl hret
  have hl : lv_has ls 2 [(0, .ref (h)), (1, .int (x))] := hl
  have S : CallFix p m c cX3_sealWith 2 s args wsX3_sealWith RX3 := ⟨hx, hb, hml, hown, hts⟩
  have iX3 : ∀ w ∈ u_ws RX3 TX3 12, w ∈ wsX3_sealWith := by decide +kernel
  have f34 := hts (.fieldLink RX3 34 "LetterSealsModel" "seals" "[I") (by decide +kernel)
  have f48 := hts (.fieldLink RX3 48 "LetterSealsModel" "envelopes" "I") (by decide +kernel)
  have k83 := hts (.constant RX3 83 (65521)) (by decide +kernel)
  refine lv_bipush (v := 53) hx hb dX3_sealWith_0 (by decide +kernel) ?_
  refine lv_aload_n hx hb dX3_sealWith_2 rfl (lv_at hl 0 rfl) ?_
  refine va_get (D := gD g) (ci := 3) (v := .int (nI ec)) (C := RX3) (T := TX3) (N := 12) hx hb hts iX3 hown hK.1 hP 0 rfl rfl 4 (by decide) f48 (fun _ h9 => h9) rfl dX3_sealWith_3 ?_
  refine br_ne0 (a := ec) (tgt := 13) hx hb (by omega) dX3_sealWith_6 (by decide) (fun c6 => ?_) (fun c6 => ?_)
  · refine lv_aload_n hx hb dX3_sealWith_13 rfl (lv_at hl 0 rfl) ?_
    refine va_get (D := gD g) (ci := 3) (v := .ref (X 8)) (C := RX3) (T := TX3) (N := 12) hx hb hts iX3 hown hK.1 hP 0 rfl rfl 11 (by decide) f34 (fun _ h9 => h9) rfl dX3_sealWith_14 ?_
    refine lv_aload_n hx hb dX3_sealWith_17 rfl (lv_at hl 0 rfl) ?_
    refine va_get (D := gD g) (ci := 3) (v := .int (nI ec)) (C := RX3) (T := TX3) (N := 12) hx hb hts iX3 hown hK.1 hP 0 rfl rfl 4 (by decide) f48 (fun _ h9 => h9) rfl dX3_sealWith_18 ?_
    refine lv_iconst (v := nI (1)) hx hb dX3_sealWith_21 (by decide +kernel) ?_
    refine lv_isub hx hb dX3_sealWith_22 ?_
    refine lv_toI (z := nI (ec - 1)) (pk_sub (by omega)) ?_
    refine ld_I (k := ec - 1) (n := 24) (f := V 8) hx hb hK.1 hP 9 rfl (by omega) (by omega) dX3_sealWith_23 ?_
    refine lv_imul hx hb dX3_sealWith_24 ?_
    refine lv_iload_n hx hb dX3_sealWith_25 rfl (lv_at hl 1 rfl) ?_
    refine lv_iadd hx hb dX3_sealWith_26 ?_
    refine lv_ldc (v := 65521) hx hb hown k83 dX3_sealWith_27 ?_
    refine lv_irem hx hb dX3_sealWith_29 (by decide +kernel) ?_
    refine lv_toI (z := slF (lsV (V 8) ec) x) (by first | (rw [lsV, if_neg c6, slF, Int32.mul_comm]; rfl) | (rw [lsV, if_pos c6, slF, Int32.mul_comm]; rfl)) ?_
    exact hret _ _ dX3_sealWith_30
  · refine lv_iconst (v := 1) hx hb dX3_sealWith_9 (by decide +kernel) ?_
    refine lv_goto (tgt := 24) hx hb dX3_sealWith_10 (by decide) ?_
    refine lv_imul hx hb dX3_sealWith_24 ?_
    refine lv_iload_n hx hb dX3_sealWith_25 rfl (lv_at hl 1 rfl) ?_
    refine lv_iadd hx hb dX3_sealWith_26 ?_
    refine lv_ldc (v := 65521) hx hb hown k83 dX3_sealWith_27 ?_
    refine lv_irem hx hb dX3_sealWith_29 (by decide +kernel) ?_
    refine lv_toI (z := slF (lsV (V 8) ec) x) (by first | (rw [lsV, if_neg c6, slF, Int32.mul_comm]; rfl) | (rw [lsV, if_pos c6, slF, Int32.mul_comm]; rfl)) ?_
    exact hret _ _ dX3_sealWith_30

set_option maxHeartbeats 4000000 in
set_option maxRecDepth 100000 in
/-- isAlike -/
theorem c_X3_isAlike (l : Launch) (g : gT) (h : Nat) (X : Nat → Nat) (V : Nat → Nat → Int32) (th : Int32) (lc ec : Nat) (NN : Nat → Nat) (hlc : lc ≤ 12) (hec : ec ≤ 24) (hNN : ∀ i, i < lc → V 0 i = nI (NN i) ∧ NN i ≤ 40) (k : Nat) (hk : k < lc) (o o2 t : Nat) (ho : o + t ≤ 40) (ho2 : o2 + t ≤ 40) : pM g l yX3_isAlike wsX3_isAlike { frames := 1, cells := 0, slots := 0, locals := 22 } [.ref (h), .int (nI k), .int (nI o), .int (nI o2), .int (nI t)] (fun H => va_P (gD g) vwCl (mdW g h X V th lc ec) H) (.int (bI (eqR (rwV V k) o (rwV V k) o2 t))) := by
  refine pu_ofZ (cc := cX3_isAlike) (maxL := 6) (bI_n _) (by decide) rfl (Nat.le_of_ble_eq_true rfl) ?_
  intro p e s m args below meth c H ls Q hx hb hml hts hown hK hP hl hret
  have hl : lv_has ls 6 [(0, .ref (h)), (1, .int (nI k)), (2, .int (nI o)), (3, .int (nI o2)), (4, .int (nI t))] := hl
  have S : CallFix p m c cX3_isAlike 6 s args wsX3_isAlike RX3 := ⟨hx, hb, hml, hown, hts⟩
  refine lv_iconst (v := nI (0)) hx hb dX3_isAlike_0 (by decide +kernel) ?_
  refine lv_istore (lv' := [(5, .int (nI (0))), (0, .ref (h)), (1, .int (nI k)), (2, .int (nI o)), (3, .int (nI o2)), (4, .int (nI t))]) hx hb dX3_isAlike_1 hl (by decide) rfl (fun ls hl => ?_)
  have L3 : ∀ (k1 i : Nat) (ls : Array Slot), t - i < k1 → i ≤ t → (eqR (rwV V k) o (rwV V k) o2 i = true) → lv_has ls 6 [(5, .int (nI i)), (0, .ref (h)), (1, .int (nI k)), (2, .int (nI o)), (3, .int (nI o2)), (4, .int (nI t))] → W p l e { frames := 1, cells := 0, slots := 0, locals := 22 } s m args below meth c H [] 0 0 Q (F0 m 3 ls []) := by
    intro k1
    induction k1 with
    | zero => intro i ls hFu; exact absurd hFu (Nat.not_lt_zero _)
    | succ k1 ih1 =>
      intro i ls hFu hLe he hl
      refine lv_iload hx hb dX3_isAlike_3 (lv_at hl 0 rfl) ?_
      refine lv_iload hx hb dX3_isAlike_5 (lv_at hl 5 rfl) ?_
      refine br_ge (a := i) (b := t) (tgt := 39) hx hb (by omega) (by omega) dX3_isAlike_7 (by decide) (fun c7 => ?_) (fun c7 => ?_)
      · have e_i : i = t := by omega
        rw [e_i] at hl
        refine lv_iconst (v := bI true) hx hb dX3_isAlike_39 (by decide +kernel) ?_
        refine lv_toI (z := bI (eqR (rwV V k) o (rwV V k) o2 t)) (by rw [← e_i, he]) ?_
        exact hret _ _ dX3_isAlike_40
      · refine lv_aload_n hx hb dX3_isAlike_10 rfl (lv_at hl 1 rfl) ?_
        refine lv_iload_n hx hb dX3_isAlike_11 rfl (lv_at hl 2 rfl) ?_
        refine lv_iload_n hx hb dX3_isAlike_12 rfl (lv_at hl 3 rfl) ?_
        refine lv_iload hx hb dX3_isAlike_13 (lv_at hl 0 rfl) ?_
        refine lv_iadd hx hb dX3_isAlike_15 ?_
        refine lv_toI (z := nI (o + i)) (nI_add _ _) ?_
        refine p_V (As := [.int (nI k), .int (nI (o + i))]) (rest := []) S (c_X3_at l g h X V th lc ec (k) (o + i) (by omega) (by omega)) (cwV 2 hts gX3_isAlike_X3_at rfl rfl rfl (by decide +kernel) ⟨Nat.le_of_ble_eq_true rfl, Nat.le_of_ble_eq_true rfl⟩) hK (va_recv hK.1 hP (ci := 3) (q0 := 0) rfl rfl) (hP) rfl hl.1 rfl (Nat.le_of_ble_eq_true rfl) dX3_isAlike_16 ⟨Nat.le_of_ble_eq_true rfl, Nat.le_of_ble_eq_true rfl⟩ ?_
        refine lv_aload_n hx hb dX3_isAlike_19 rfl (lv_at hl 1 rfl) ?_
        refine lv_iload_n hx hb dX3_isAlike_20 rfl (lv_at hl 2 rfl) ?_
        refine lv_iload_n hx hb dX3_isAlike_21 rfl (lv_at hl 4 rfl) ?_
        refine lv_iload hx hb dX3_isAlike_22 (lv_at hl 0 rfl) ?_
        refine lv_iadd hx hb dX3_isAlike_24 ?_
        refine lv_toI (z := nI (o2 + i)) (nI_add _ _) ?_
        refine p_V (As := [.int (nI k), .int (nI (o2 + i))]) (rest := [.int (rwV V k (o + i))]) S (c_X3_at l g h X V th lc ec (k) (o2 + i) (by omega) (by omega)) (cwV 2 hts gX3_isAlike_X3_at rfl rfl rfl (by decide +kernel) ⟨Nat.le_of_ble_eq_true rfl, Nat.le_of_ble_eq_true rfl⟩) hK (va_recv hK.1 hP (ci := 3) (q0 := 0) rfl rfl) (hP) rfl hl.1 rfl (Nat.le_of_ble_eq_true rfl) dX3_isAlike_25 ⟨Nat.le_of_ble_eq_true rfl, Nat.le_of_ble_eq_true rfl⟩ ?_
        refine lv_icmp_eq (tgt := 33) hx hb dX3_isAlike_28 (by decide) (fun c28 => ?_) (fun c28 => ?_)
        · refine lv_iinc (v := nI (i + 1)) (lv' := [(5, .int (nI (i + 1))), (0, .ref (h)), (1, .int (nI k)), (2, .int (nI o)), (3, .int (nI o2)), (4, .int (nI t))]) hx hb dX3_isAlike_33 hl (k := 0) rfl (nI_1 _) (by decide) rfl (fun ls hl => ?_)
          refine lv_goto (tgt := 3) hx hb dX3_isAlike_36 (by decide) ?_
          exact ih1 (i + 1) _ (by omega) (by omega) (eqR_go he c28) (lv_sub hl [0, 1, 2, 3, 4, 5] rfl)
        · refine lv_iconst (v := bI false) hx hb dX3_isAlike_31 (by decide +kernel) ?_
          refine lv_toI (z := bI (eqR (rwV V k) o (rwV V k) o2 t)) (by rw [eqR_no c7 c28]) ?_
          exact hret _ _ dX3_isAlike_32
  exact L3 (t + 1) (0) _ (by omega) (by omega) (rfl) (lv_sub hl [0, 1, 2, 3, 4, 5] rfl)

set_option maxHeartbeats 4000000 in
set_option maxRecDepth 100000 in
/-- hasFrom -/
theorem c_X3_hasFrom (l : Launch) (g : gT) (h : Nat) (X : Nat → Nat) (V : Nat → Nat → Int32) (th : Int32) (lc ec : Nat) (NN : Nat → Nat) (hlc : lc ≤ 12) (hec : ec ≤ 24) (hNN : ∀ i, i < lc → V 0 i = nI (NN i) ∧ NN i ≤ 40) (k : Nat) (hk : k < lc) (k2 : Nat) (hk2 : k2 < lc) (o : Nat) (ho : o + NN k2 ≤ 40) : pM g l yX3_hasFrom wsX3_hasFrom { frames := 1, cells := 0, slots := 0, locals := 22 } [.ref (h), .int (nI k), .int (nI o), .int (nI k2)] (fun H => va_P (gD g) vwCl (mdW g h X V th lc ec) H) (.int (bI (eqR (rwV V k) o (rwV V k2) 0 (NN k2)))) := by
  refine pu_ofZ (cc := cX3_hasFrom) (maxL := 5) (bI_n _) (by decide) rfl (Nat.le_of_ble_eq_true rfl) ?_
  intro p e s m args below meth c H ls Q hx hb hml hts hown hK hP hl hret
  have hl : lv_has ls 5 [(0, .ref (h)), (1, .int (nI k)), (2, .int (nI o)), (3, .int (nI k2))] := hl
  have S : CallFix p m c cX3_hasFrom 5 s args wsX3_hasFrom RX3 := ⟨hx, hb, hml, hown, hts⟩
  have hVn := (hNN k2 hk2).1
  have hn := (hNN k2 hk2).2
  have iX3 : ∀ w ∈ u_ws RX3 TX3 12, w ∈ wsX3_hasFrom := by decide +kernel
  have f9 := hts (.fieldLink RX3 9 "LetterSealsModel" "many" "[I") (by decide +kernel)
  refine lv_iconst (v := nI (0)) hx hb dX3_hasFrom_0 (by decide +kernel) ?_
  refine lv_istore (lv' := [(4, .int (nI (0))), (0, .ref (h)), (1, .int (nI k)), (2, .int (nI o)), (3, .int (nI k2))]) hx hb dX3_hasFrom_1 hl (by decide) rfl (fun ls hl => ?_)
  have L3 : ∀ (k1 i : Nat) (ls : Array Slot), NN k2 - i < k1 → i ≤ NN k2 → (eqR (rwV V k) o (rwV V k2) 0 i = true) → lv_has ls 5 [(4, .int (nI i)), (0, .ref (h)), (1, .int (nI k)), (2, .int (nI o)), (3, .int (nI k2))] → W p l e { frames := 1, cells := 0, slots := 0, locals := 22 } s m args below meth c H [] 0 0 Q (F0 m 3 ls []) := by
    intro k1
    induction k1 with
    | zero => intro i ls hFu; exact absurd hFu (Nat.not_lt_zero _)
    | succ k1 ih1 =>
      intro i ls hFu hLe he hl
      refine lv_iload hx hb dX3_hasFrom_3 (lv_at hl 0 rfl) ?_
      refine lv_aload_n hx hb dX3_hasFrom_5 rfl (lv_at hl 1 rfl) ?_
      refine va_get (D := gD g) (ci := 3) (v := .ref (X 0)) (C := RX3) (T := TX3) (N := 12) hx hb hts iX3 hown hK.1 hP 0 rfl rfl 2 (by decide) f9 (fun _ h9 => h9) rfl dX3_hasFrom_6 ?_
      refine lv_iload_n hx hb dX3_hasFrom_9 rfl (lv_at hl 4 rfl) ?_
      refine ld_I (k := k2) (n := 12) (f := V 0) hx hb hK.1 hP 1 rfl (by omega) (by omega) dX3_hasFrom_10 ?_
      refine lv_toI (z := nI (NN k2)) (hVn) ?_
      refine br_ge (a := i) (b := NN k2) (tgt := 41) hx hb (by omega) (by omega) dX3_hasFrom_11 (by decide) (fun c11 => ?_) (fun c11 => ?_)
      · have e_i : i = NN k2 := by omega
        rw [e_i] at hl
        refine lv_iconst (v := bI true) hx hb dX3_hasFrom_41 (by decide +kernel) ?_
        refine lv_toI (z := bI (eqR (rwV V k) o (rwV V k2) 0 (NN k2))) (by rw [← e_i, he]) ?_
        exact hret _ _ dX3_hasFrom_42
      · refine lv_aload_n hx hb dX3_hasFrom_14 rfl (lv_at hl 1 rfl) ?_
        refine lv_iload_n hx hb dX3_hasFrom_15 rfl (lv_at hl 2 rfl) ?_
        refine lv_iload_n hx hb dX3_hasFrom_16 rfl (lv_at hl 3 rfl) ?_
        refine lv_iload hx hb dX3_hasFrom_17 (lv_at hl 0 rfl) ?_
        refine lv_iadd hx hb dX3_hasFrom_19 ?_
        refine lv_toI (z := nI (o + i)) (nI_add _ _) ?_
        refine p_V (As := [.int (nI k), .int (nI (o + i))]) (rest := []) S (c_X3_at l g h X V th lc ec (k) (o + i) (by omega) (by omega)) (cwV 2 hts gX3_hasFrom_X3_at rfl rfl rfl (by decide +kernel) ⟨Nat.le_of_ble_eq_true rfl, Nat.le_of_ble_eq_true rfl⟩) hK (va_recv hK.1 hP (ci := 3) (q0 := 0) rfl rfl) (hP) rfl hl.1 rfl (Nat.le_of_ble_eq_true rfl) dX3_hasFrom_20 ⟨Nat.le_of_ble_eq_true rfl, Nat.le_of_ble_eq_true rfl⟩ ?_
        refine lv_aload_n hx hb dX3_hasFrom_23 rfl (lv_at hl 1 rfl) ?_
        refine lv_iload_n hx hb dX3_hasFrom_24 rfl (lv_at hl 4 rfl) ?_
        refine lv_iload hx hb dX3_hasFrom_25 (lv_at hl 0 rfl) ?_
        refine p_V (As := [.int (nI k2), .int (nI i)]) (rest := [.int (rwV V k (o + i))]) S (c_X3_at l g h X V th lc ec (k2) (i) (by omega) (by omega)) (cwV 2 hts gX3_hasFrom_X3_at rfl rfl rfl (by decide +kernel) ⟨Nat.le_of_ble_eq_true rfl, Nat.le_of_ble_eq_true rfl⟩) hK (va_recv hK.1 hP (ci := 3) (q0 := 0) rfl rfl) (hP) rfl hl.1 rfl (Nat.le_of_ble_eq_true rfl) dX3_hasFrom_27 ⟨Nat.le_of_ble_eq_true rfl, Nat.le_of_ble_eq_true rfl⟩ ?_
        refine lv_icmp_eq (tgt := 35) hx hb dX3_hasFrom_30 (by decide) (fun c30 => ?_) (fun c30 => ?_)
        · refine lv_iinc (v := nI (i + 1)) (lv' := [(4, .int (nI (i + 1))), (0, .ref (h)), (1, .int (nI k)), (2, .int (nI o)), (3, .int (nI k2))]) hx hb dX3_hasFrom_35 hl (k := 0) rfl (nI_1 _) (by decide) rfl (fun ls hl => ?_)
          refine lv_goto (tgt := 3) hx hb dX3_hasFrom_38 (by decide) ?_
          exact ih1 (i + 1) _ (by omega) (by omega) (eqR_go he (by rw [Nat.zero_add]; exact c30)) (lv_sub hl [0, 1, 2, 3, 4] rfl)
        · refine lv_iconst (v := bI false) hx hb dX3_hasFrom_33 (by decide +kernel) ?_
          refine lv_toI (z := bI (eqR (rwV V k) o (rwV V k2) 0 (NN k2))) (by rw [eqR_no c11 (by rw [Nat.zero_add]; exact c30)]) ?_
          exact hret _ _ dX3_hasFrom_34
  exact L3 (NN k2 + 1) (0) _ (by omega) (by omega) (rfl) (lv_sub hl [0, 1, 2, 3, 4] rfl)

set_option maxHeartbeats 4000000 in
set_option maxRecDepth 100000 in
/-- first -/
theorem c_X3_first (l : Launch) (g : gT) (h : Nat) (X : Nat → Nat) (V : Nat → Nat → Int32) (th : Int32) (lc ec : Nat) (NN : Nat → Nat) (hlc : lc ≤ 12) (hec : ec ≤ 24) (hNN : ∀ i, i < lc → V 0 i = nI (NN i) ∧ NN i ≤ 40) (k : Nat) (hk : k < lc) (k2 : Nat) (hk2 : k2 < lc) : pM g l yX3_first wsX3_first { frames := 2, cells := 0, slots := 0, locals := 46 } [.ref (h), .int (nI k), .int (nI k2)] (fun H => va_P (gD g) vwCl (mdW g h X V th lc ec) H) (.int (fsF (fun j => eqR (rwV V k) j (rwV V k2) 0 (NN k2)) (NN k + 1 - NN k2) 0)) := by
  refine pu_ofI (cc := cX3_first) (maxL := 4) (by decide) rfl (Nat.le_of_ble_eq_true rfl) ?_
  intro p e s m args below meth c H ls Q hx hb hml hts hown hK hP hl hret
  have hl : lv_has ls 4 [(0, .ref (h)), (1, .int (nI k)), (2, .int (nI k2))] := hl
  have S : CallFix p m c cX3_first 4 s args wsX3_first RX3 := ⟨hx, hb, hml, hown, hts⟩
  have hVn := (hNN k hk).1
  have hn := (hNN k hk).2
  have hVn2 := (hNN k2 hk2).1
  have hn2 := (hNN k2 hk2).2
  have iX3 : ∀ w ∈ u_ws RX3 TX3 12, w ∈ wsX3_first := by decide +kernel
  have f9 := hts (.fieldLink RX3 9 "LetterSealsModel" "many" "[I") (by decide +kernel)
  refine lv_iconst (v := nI (0)) hx hb dX3_first_0 (by decide +kernel) ?_
  refine lv_istore_n (lv' := [(3, .int (nI (0))), (0, .ref (h)), (1, .int (nI k)), (2, .int (nI k2))]) hx hb dX3_first_1 rfl hl (by decide) rfl (fun ls hl => ?_)
  have L2 : ∀ (k1 i : Nat) (ls : Array Slot), (NN k + 1 - NN k2) - i < k1 → i ≤ (NN k + 1 - NN k2) → (fsF (fun j => eqR (rwV V k) j (rwV V k2) 0 (NN k2)) (NN k + 1 - NN k2) 0 = fsF (fun j => eqR (rwV V k) j (rwV V k2) 0 (NN k2)) (NN k + 1 - NN k2 - i) i) → lv_has ls 4 [(3, .int (nI i)), (0, .ref (h)), (1, .int (nI k)), (2, .int (nI k2))] → W p l e { frames := 2, cells := 0, slots := 0, locals := 46 } s m args below meth c H [] 0 0 Q (F0 m 2 ls []) := by
    intro k1
    induction k1 with
    | zero => intro i ls hFu; exact absurd hFu (Nat.not_lt_zero _)
    | succ k1 ih1 =>
      intro i ls hFu hLe he hl
      refine lv_iload_n hx hb dX3_first_2 rfl (lv_at hl 0 rfl) ?_
      refine lv_aload_n hx hb dX3_first_3 rfl (lv_at hl 1 rfl) ?_
      refine va_get (D := gD g) (ci := 3) (v := .ref (X 0)) (C := RX3) (T := TX3) (N := 12) hx hb hts iX3 hown hK.1 hP 0 rfl rfl 2 (by decide) f9 (fun _ h9 => h9) rfl dX3_first_4 ?_
      refine lv_iload_n hx hb dX3_first_7 rfl (lv_at hl 3 rfl) ?_
      refine ld_I (k := k2) (n := 12) (f := V 0) hx hb hK.1 hP 1 rfl (by omega) (by omega) dX3_first_8 ?_
      refine lv_toI (z := nI (NN k2)) (hVn2) ?_
      refine lv_iadd hx hb dX3_first_9 ?_
      refine lv_toI (z := nI (i + NN k2)) (nI_add _ _) ?_
      refine lv_aload_n hx hb dX3_first_10 rfl (lv_at hl 1 rfl) ?_
      refine va_get (D := gD g) (ci := 3) (v := .ref (X 0)) (C := RX3) (T := TX3) (N := 12) hx hb hts iX3 hown hK.1 hP 0 rfl rfl 2 (by decide) f9 (fun _ h9 => h9) rfl dX3_first_11 ?_
      refine lv_iload_n hx hb dX3_first_14 rfl (lv_at hl 2 rfl) ?_
      refine ld_I (k := k) (n := 12) (f := V 0) hx hb hK.1 hP 1 rfl (by omega) (by omega) dX3_first_15 ?_
      refine lv_toI (z := nI (NN k)) (hVn) ?_
      refine br_gt (a := i + NN k2) (b := NN k) (tgt := 37) hx hb (by omega) (by omega) dX3_first_16 (by decide) (fun c16 => ?_) (fun c16 => ?_)
      · refine lv_iconst (v := (-1)) hx hb dX3_first_37 (by decide +kernel) ?_
        refine lv_toI (z := fsF (fun j => eqR (rwV V k) j (rwV V k2) 0 (NN k2)) (NN k + 1 - NN k2) 0) (by rw [he, show NN k + 1 - NN k2 - i = 0 by omega]; rfl) ?_
        exact hret _ _ dX3_first_38
      · have c16a : i < NN k + 1 - NN k2 := by omega
        refine lv_aload_n hx hb dX3_first_19 rfl (lv_at hl 1 rfl) ?_
        refine lv_iload_n hx hb dX3_first_20 rfl (lv_at hl 2 rfl) ?_
        refine lv_iload_n hx hb dX3_first_21 rfl (lv_at hl 0 rfl) ?_
        refine lv_iload_n hx hb dX3_first_22 rfl (lv_at hl 3 rfl) ?_
        refine p_V (As := [.int (nI k), .int (nI i), .int (nI k2)]) (rest := []) S (c_X3_hasFrom l g h X V th lc ec NN hlc hec hNN k hk k2 hk2 i (by omega)) (cwV 3 hts gX3_first_X3_hasFrom rfl rfl rfl (by decide +kernel) ⟨Nat.le_of_ble_eq_true rfl, Nat.le_of_ble_eq_true rfl⟩) hK (va_recv hK.1 hP (ci := 3) (q0 := 0) rfl rfl) (hP) rfl hl.1 rfl (Nat.le_of_ble_eq_true rfl) dX3_first_23 ⟨Nat.le_of_ble_eq_true rfl, Nat.le_of_ble_eq_true rfl⟩ ?_
        refine br_eqB (tgt := 31) hx hb dX3_first_26 (by decide) (fun c26 => ?_) (fun c26 => ?_)
        · refine lv_iinc (v := nI (i + 1)) (lv' := [(3, .int (nI (i + 1))), (0, .ref (h)), (1, .int (nI k)), (2, .int (nI k2))]) hx hb dX3_first_31 hl (k := 0) rfl (nI_1 _) (by decide) rfl (fun ls hl => ?_)
          refine lv_goto (tgt := 2) hx hb dX3_first_34 (by decide) ?_
          exact ih1 (i + 1) _ (by omega) (by omega) (he.trans (fsF_no c16a c26)) (lv_sub hl [0, 1, 2, 3] rfl)
        · refine lv_iload_n hx hb dX3_first_29 rfl (lv_at hl 0 rfl) ?_
          refine lv_toI (z := fsF (fun j => eqR (rwV V k) j (rwV V k2) 0 (NN k2)) (NN k + 1 - NN k2) 0) ((he.trans (fsF_yes (by omega) c26)).symm) ?_
          exact hret _ _ dX3_first_30
  exact L2 ((NN k + 1 - NN k2) + 1) (0) _ (by omega) (by omega) (rfl) (lv_sub hl [0, 1, 2, 3] rfl)

set_option maxHeartbeats 4000000 in
set_option maxRecDepth 100000 in
/-- pairs, 0 -/
theorem c_X3_pairs0 (l : Launch) (g : gT) (h : Nat) (X : Nat → Nat) (V : Nat → Nat → Int32) (th : Int32) (lc ec : Nat) (NN : Nat → Nat) (hlc : lc ≤ 12) (hec : ec ≤ 24) (hNN : ∀ i, i < lc → V 0 i = nI (NN i) ∧ NN i ≤ 40) (k : Nat) (hk : k < lc) (t : Nat) (ht : 1 ≤ t) (ht2 : t ≤ 40) : pM g l yX3_pairs wsX3_pairs { frames := 2, cells := 0, slots := 0, locals := 47 } [.ref (h), .int (nI k), .int (nI t), .int (0)] (fun H => va_P (gD g) vwCl (mdW g h X V th lc ec) H) (.int (prM (paP (rwV V k) t false) (NN k + 1 - t))) := by
  refine pu_ofI (cc := cX3_pairs) (maxL := 7) (by decide) rfl (Nat.le_of_ble_eq_true rfl) ?_
  intro p e s m args below meth c H ls Q hx hb hml hts hown hK hP hl hret
  have hl : lv_has ls 7 [(0, .ref (h)), (1, .int (nI k)), (2, .int (nI t)), (3, .int (0))] := hl
  have S : CallFix p m c cX3_pairs 7 s args wsX3_pairs RX3 := ⟨hx, hb, hml, hown, hts⟩
  have hVn := (hNN k hk).1
  have hn := (hNN k hk).2
  have iX3 : ∀ w ∈ u_ws RX3 TX3 12, w ∈ wsX3_pairs := by decide +kernel
  have f9 := hts (.fieldLink RX3 9 "LetterSealsModel" "many" "[I") (by decide +kernel)
  refine lv_iconst (v := 0) hx hb dX3_pairs_0 (by decide +kernel) ?_
  refine lv_istore (lv' := [(4, .int (0)), (0, .ref (h)), (1, .int (nI k)), (2, .int (nI t)), (3, .int (0))]) hx hb dX3_pairs_1 hl (by decide) rfl (fun ls hl => ?_)
  refine lv_iconst (v := nI (0)) hx hb dX3_pairs_3 (by decide +kernel) ?_
  refine lv_istore (lv' := [(5, .int (nI (0))), (4, .int (0)), (0, .ref (h)), (1, .int (nI k)), (2, .int (nI t)), (3, .int (0))]) hx hb dX3_pairs_4 hl (by decide) rfl (fun ls hl => ?_)
  have L6 : ∀ (k1 i : Nat) (ls : Array Slot), (NN k + 1 - t) - i < k1 → i ≤ (NN k + 1 - t) → lv_has ls 7 [(5, .int (nI i)), (4, .int (prM (paP (rwV V k) t false) i)), (0, .ref (h)), (1, .int (nI k)), (2, .int (nI t)), (3, .int (0))] → W p l e { frames := 2, cells := 0, slots := 0, locals := 47 } s m args below meth c H [] 0 0 Q (F0 m 6 ls []) := by
    intro k1
    induction k1 with
    | zero => intro i ls hFu; exact absurd hFu (Nat.not_lt_zero _)
    | succ k1 ih1 =>
      intro i ls hFu hLe hl
      refine lv_iload hx hb dX3_pairs_6 (lv_at hl 0 rfl) ?_
      refine lv_iload_n hx hb dX3_pairs_8 rfl (lv_at hl 4 rfl) ?_
      refine lv_iadd hx hb dX3_pairs_9 ?_
      refine lv_toI (z := nI (i + t)) (nI_add _ _) ?_
      refine lv_aload_n hx hb dX3_pairs_10 rfl (lv_at hl 2 rfl) ?_
      refine va_get (D := gD g) (ci := 3) (v := .ref (X 0)) (C := RX3) (T := TX3) (N := 12) hx hb hts iX3 hown hK.1 hP 0 rfl rfl 2 (by decide) f9 (fun _ h9 => h9) rfl dX3_pairs_11 ?_
      refine lv_iload_n hx hb dX3_pairs_14 rfl (lv_at hl 3 rfl) ?_
      refine ld_I (k := k) (n := 12) (f := V 0) hx hb hK.1 hP 1 rfl (by omega) (by omega) dX3_pairs_15 ?_
      refine lv_toI (z := nI (NN k)) (hVn) ?_
      refine br_gt (a := i + t) (b := NN k) (tgt := 80) hx hb (by omega) (by omega) dX3_pairs_16 (by decide) (fun c16 => ?_) (fun c16 => ?_)
      · have e_i : i = (NN k + 1 - t) := by omega
        rw [e_i] at hl
        refine lv_iload hx hb dX3_pairs_80 (lv_at hl 1 rfl) ?_
        exact hret _ _ dX3_pairs_82
      · refine lv_iconst (v := nI (0)) hx hb dX3_pairs_19 (by decide +kernel) ?_
        refine lv_istore (lv' := [(6, .int (nI (0))), (5, .int (nI i)), (4, .int (prM (paP (rwV V k) t false) i)), (0, .ref (h)), (1, .int (nI k)), (2, .int (nI t)), (3, .int (0))]) hx hb dX3_pairs_20 hl (by decide) rfl (fun ls hl => ?_)
        have L22 : ∀ (k2 j : Nat) (ls : Array Slot), i - j < k2 → j ≤ i → lv_has ls 7 [(6, .int (nI j)), (4, .int (acF (fun a => (paP (rwV V k) t false) a i) (prM (paP (rwV V k) t false) i) j)), (5, .int (nI i)), (0, .ref (h)), (1, .int (nI k)), (2, .int (nI t)), (3, .int (0))] → W p l e { frames := 2, cells := 0, slots := 0, locals := 47 } s m args below meth c H [] 0 0 Q (F0 m 22 ls []) := by
          intro k2
          induction k2 with
          | zero => intro j ls hFu; exact absurd hFu (Nat.not_lt_zero _)
          | succ k2 ih2 =>
            intro j ls hFu hLe hl
            refine lv_iload hx hb dX3_pairs_22 (lv_at hl 0 rfl) ?_
            refine lv_iload hx hb dX3_pairs_24 (lv_at hl 2 rfl) ?_
            refine br_ge (a := j) (b := i) (tgt := 74) hx hb (by omega) (by omega) dX3_pairs_26 (by decide) (fun c26 => ?_) (fun c26 => ?_)
            · have e_j : j = i := by omega
              rw [e_j] at hl
              refine lv_iinc (v := nI (i + 1)) (lv' := [(5, .int (nI (i + 1))), (6, .int (nI i)), (4, .int (acF (fun a => (paP (rwV V k) t false) a i) (prM (paP (rwV V k) t false) i) i)), (0, .ref (h)), (1, .int (nI k)), (2, .int (nI t)), (3, .int (0))]) hx hb dX3_pairs_74 hl (k := 2) rfl (nI_1 _) (by decide) rfl (fun ls hl => ?_)
              refine lv_goto (tgt := 6) hx hb dX3_pairs_77 (by decide) ?_
              exact ih1 (i + 1) _ (by omega) (by omega) (lv_sub hl [0, 2, 3, 4, 5, 6] rfl)
            · refine lv_aload_n hx hb dX3_pairs_29 rfl (lv_at hl 3 rfl) ?_
              refine lv_iload_n hx hb dX3_pairs_30 rfl (lv_at hl 4 rfl) ?_
              refine lv_iload hx hb dX3_pairs_31 (lv_at hl 2 rfl) ?_
              refine lv_iload_n hx hb dX3_pairs_33 rfl (lv_at hl 5 rfl) ?_
              refine p_V (As := [.int (nI k), .int (nI i), .int (nI t)]) (rest := []) S (c_X3_window l g h X V th lc ec NN hlc hec hNN k hk i t (by omega)) (cwV 3 hts gX3_pairs_X3_window rfl rfl rfl (by decide +kernel) ⟨Nat.le_of_ble_eq_true rfl, Nat.le_of_ble_eq_true rfl⟩) hK (va_recv hK.1 hP (ci := 3) (q0 := 0) rfl rfl) (hP) rfl hl.1 rfl (Nat.le_of_ble_eq_true rfl) dX3_pairs_34 ⟨Nat.le_of_ble_eq_true rfl, Nat.le_of_ble_eq_true rfl⟩ ?_
              refine lv_aload_n hx hb dX3_pairs_37 rfl (lv_at hl 3 rfl) ?_
              refine lv_iload_n hx hb dX3_pairs_38 rfl (lv_at hl 4 rfl) ?_
              refine lv_iload hx hb dX3_pairs_39 (lv_at hl 0 rfl) ?_
              refine lv_iload_n hx hb dX3_pairs_41 rfl (lv_at hl 5 rfl) ?_
              refine p_V (As := [.int (nI k), .int (nI j), .int (nI t)]) (rest := [.int (wnF (rwV V k) i t)]) S (c_X3_window l g h X V th lc ec NN hlc hec hNN k hk j t (by omega)) (cwV 3 hts gX3_pairs_X3_window rfl rfl rfl (by decide +kernel) ⟨Nat.le_of_ble_eq_true rfl, Nat.le_of_ble_eq_true rfl⟩) hK (va_recv hK.1 hP (ci := 3) (q0 := 0) rfl rfl) (hP) rfl hl.1 rfl (Nat.le_of_ble_eq_true rfl) dX3_pairs_42 ⟨Nat.le_of_ble_eq_true rfl, Nat.le_of_ble_eq_true rfl⟩ ?_
              refine lv_icmp_ne (tgt := 68) hx hb dX3_pairs_45 (by decide) (fun c45 => ?_) (fun c45 => ?_)
              · have e68 : acF (fun a => (paP (rwV V k) t false) a i) (prM (paP (rwV V k) t false) i) j = acF (fun a => (paP (rwV V k) t false) a i) (prM (paP (rwV V k) t false) i) (j + 1) := by rw [acF, if_neg (paP_no (by first | exact Or.inl c45 | exact Or.inr ⟨rfl, c62⟩))]
                rw [e68] at hl
                refine lv_iinc (v := nI (j + 1)) (lv' := [(6, .int (nI (j + 1))), (4, .int (acF (fun a => (paP (rwV V k) t false) a i) (prM (paP (rwV V k) t false) i) (j + 1))), (5, .int (nI i)), (0, .ref (h)), (1, .int (nI k)), (2, .int (nI t)), (3, .int (0))]) hx hb dX3_pairs_68 hl (k := 0) rfl (nI_1 _) (by decide) rfl (fun ls hl => ?_)
                refine lv_goto (tgt := 22) hx hb dX3_pairs_71 (by decide) ?_
                exact ih2 (j + 1) _ (by omega) (by omega) (lv_sub hl [0, 1, 2, 3, 4, 5, 6] rfl)
              · refine lv_iload_n hx hb dX3_pairs_48 rfl (lv_at hl 6 rfl) ?_
                refine lv_if_eq (tgt := 65) hx hb dX3_pairs_49 (by decide) (fun c49 => ?_) (fun c49 => ?_)
                · refine lv_iinc (v := acF (fun a => (paP (rwV V k) t false) a i) (prM (paP (rwV V k) t false) i) (j + 1)) (lv' := [(4, .int (acF (fun a => (paP (rwV V k) t false) a i) (prM (paP (rwV V k) t false) i) (j + 1))), (6, .int (nI j)), (5, .int (nI i)), (0, .ref (h)), (1, .int (nI k)), (2, .int (nI t)), (3, .int (0))]) hx hb dX3_pairs_65 hl (k := 1) rfl (by rw [acF, if_pos (paP_yes c45 (by first | exact Or.inl rfl | exact Or.inr c62))]; rfl) (by decide) rfl (fun ls hl => ?_)
                  refine lv_iinc (v := nI (j + 1)) (lv' := [(6, .int (nI (j + 1))), (4, .int (acF (fun a => (paP (rwV V k) t false) a i) (prM (paP (rwV V k) t false) i) (j + 1))), (5, .int (nI i)), (0, .ref (h)), (1, .int (nI k)), (2, .int (nI t)), (3, .int (0))]) hx hb dX3_pairs_68 hl (k := 1) rfl (nI_1 _) (by decide) rfl (fun ls hl => ?_)
                  refine lv_goto (tgt := 22) hx hb dX3_pairs_71 (by decide) ?_
                  exact ih2 (j + 1) _ (by omega) (by omega) (lv_sub hl [0, 1, 2, 3, 4, 5, 6] rfl)
                · exact absurd rfl c49
        exact L22 (i + 1) (0) _ (by omega) (by omega) (lv_sub hl [0, 2, 1, 3, 4, 5, 6] rfl)
  exact L6 ((NN k + 1 - t) + 1) (0) _ (by omega) (by omega) (lv_sub hl [0, 1, 2, 3, 4, 5] rfl)

set_option maxHeartbeats 4000000 in
set_option maxRecDepth 100000 in
/-- pairs, 1 -/
theorem c_X3_pairs1 (l : Launch) (g : gT) (h : Nat) (X : Nat → Nat) (V : Nat → Nat → Int32) (th : Int32) (lc ec : Nat) (NN : Nat → Nat) (hlc : lc ≤ 12) (hec : ec ≤ 24) (hNN : ∀ i, i < lc → V 0 i = nI (NN i) ∧ NN i ≤ 40) (k : Nat) (hk : k < lc) (t : Nat) (ht : 1 ≤ t) (ht2 : t ≤ 40) : pM g l yX3_pairs wsX3_pairs { frames := 2, cells := 0, slots := 0, locals := 47 } [.ref (h), .int (nI k), .int (nI t), .int (1)] (fun H => va_P (gD g) vwCl (mdW g h X V th lc ec) H) (.int (prM (paP (rwV V k) t true) (NN k + 1 - t))) := by
  refine pu_ofI (cc := cX3_pairs) (maxL := 7) (by decide) rfl (Nat.le_of_ble_eq_true rfl) ?_
  intro p e s m args below meth c H ls Q hx hb hml hts hown hK hP hl hret
  have hl : lv_has ls 7 [(0, .ref (h)), (1, .int (nI k)), (2, .int (nI t)), (3, .int (1))] := hl
  have S : CallFix p m c cX3_pairs 7 s args wsX3_pairs RX3 := ⟨hx, hb, hml, hown, hts⟩
  have hVn := (hNN k hk).1
  have hn := (hNN k hk).2
  have iX3 : ∀ w ∈ u_ws RX3 TX3 12, w ∈ wsX3_pairs := by decide +kernel
  have f9 := hts (.fieldLink RX3 9 "LetterSealsModel" "many" "[I") (by decide +kernel)
  refine lv_iconst (v := 0) hx hb dX3_pairs_0 (by decide +kernel) ?_
  refine lv_istore (lv' := [(4, .int (0)), (0, .ref (h)), (1, .int (nI k)), (2, .int (nI t)), (3, .int (1))]) hx hb dX3_pairs_1 hl (by decide) rfl (fun ls hl => ?_)
  refine lv_iconst (v := nI (0)) hx hb dX3_pairs_3 (by decide +kernel) ?_
  refine lv_istore (lv' := [(5, .int (nI (0))), (4, .int (0)), (0, .ref (h)), (1, .int (nI k)), (2, .int (nI t)), (3, .int (1))]) hx hb dX3_pairs_4 hl (by decide) rfl (fun ls hl => ?_)
  have L6 : ∀ (k1 i : Nat) (ls : Array Slot), (NN k + 1 - t) - i < k1 → i ≤ (NN k + 1 - t) → lv_has ls 7 [(5, .int (nI i)), (4, .int (prM (paP (rwV V k) t true) i)), (0, .ref (h)), (1, .int (nI k)), (2, .int (nI t)), (3, .int (1))] → W p l e { frames := 2, cells := 0, slots := 0, locals := 47 } s m args below meth c H [] 0 0 Q (F0 m 6 ls []) := by
    intro k1
    induction k1 with
    | zero => intro i ls hFu; exact absurd hFu (Nat.not_lt_zero _)
    | succ k1 ih1 =>
      intro i ls hFu hLe hl
      refine lv_iload hx hb dX3_pairs_6 (lv_at hl 0 rfl) ?_
      refine lv_iload_n hx hb dX3_pairs_8 rfl (lv_at hl 4 rfl) ?_
      refine lv_iadd hx hb dX3_pairs_9 ?_
      refine lv_toI (z := nI (i + t)) (nI_add _ _) ?_
      refine lv_aload_n hx hb dX3_pairs_10 rfl (lv_at hl 2 rfl) ?_
      refine va_get (D := gD g) (ci := 3) (v := .ref (X 0)) (C := RX3) (T := TX3) (N := 12) hx hb hts iX3 hown hK.1 hP 0 rfl rfl 2 (by decide) f9 (fun _ h9 => h9) rfl dX3_pairs_11 ?_
      refine lv_iload_n hx hb dX3_pairs_14 rfl (lv_at hl 3 rfl) ?_
      refine ld_I (k := k) (n := 12) (f := V 0) hx hb hK.1 hP 1 rfl (by omega) (by omega) dX3_pairs_15 ?_
      refine lv_toI (z := nI (NN k)) (hVn) ?_
      refine br_gt (a := i + t) (b := NN k) (tgt := 80) hx hb (by omega) (by omega) dX3_pairs_16 (by decide) (fun c16 => ?_) (fun c16 => ?_)
      · have e_i : i = (NN k + 1 - t) := by omega
        rw [e_i] at hl
        refine lv_iload hx hb dX3_pairs_80 (lv_at hl 1 rfl) ?_
        exact hret _ _ dX3_pairs_82
      · refine lv_iconst (v := nI (0)) hx hb dX3_pairs_19 (by decide +kernel) ?_
        refine lv_istore (lv' := [(6, .int (nI (0))), (5, .int (nI i)), (4, .int (prM (paP (rwV V k) t true) i)), (0, .ref (h)), (1, .int (nI k)), (2, .int (nI t)), (3, .int (1))]) hx hb dX3_pairs_20 hl (by decide) rfl (fun ls hl => ?_)
        have L22 : ∀ (k2 j : Nat) (ls : Array Slot), i - j < k2 → j ≤ i → lv_has ls 7 [(6, .int (nI j)), (4, .int (acF (fun a => (paP (rwV V k) t true) a i) (prM (paP (rwV V k) t true) i) j)), (5, .int (nI i)), (0, .ref (h)), (1, .int (nI k)), (2, .int (nI t)), (3, .int (1))] → W p l e { frames := 2, cells := 0, slots := 0, locals := 47 } s m args below meth c H [] 0 0 Q (F0 m 22 ls []) := by
          intro k2
          induction k2 with
          | zero => intro j ls hFu; exact absurd hFu (Nat.not_lt_zero _)
          | succ k2 ih2 =>
            intro j ls hFu hLe hl
            refine lv_iload hx hb dX3_pairs_22 (lv_at hl 0 rfl) ?_
            refine lv_iload hx hb dX3_pairs_24 (lv_at hl 2 rfl) ?_
            refine br_ge (a := j) (b := i) (tgt := 74) hx hb (by omega) (by omega) dX3_pairs_26 (by decide) (fun c26 => ?_) (fun c26 => ?_)
            · have e_j : j = i := by omega
              rw [e_j] at hl
              refine lv_iinc (v := nI (i + 1)) (lv' := [(5, .int (nI (i + 1))), (6, .int (nI i)), (4, .int (acF (fun a => (paP (rwV V k) t true) a i) (prM (paP (rwV V k) t true) i) i)), (0, .ref (h)), (1, .int (nI k)), (2, .int (nI t)), (3, .int (1))]) hx hb dX3_pairs_74 hl (k := 2) rfl (nI_1 _) (by decide) rfl (fun ls hl => ?_)
              refine lv_goto (tgt := 6) hx hb dX3_pairs_77 (by decide) ?_
              exact ih1 (i + 1) _ (by omega) (by omega) (lv_sub hl [0, 2, 3, 4, 5, 6] rfl)
            · refine lv_aload_n hx hb dX3_pairs_29 rfl (lv_at hl 3 rfl) ?_
              refine lv_iload_n hx hb dX3_pairs_30 rfl (lv_at hl 4 rfl) ?_
              refine lv_iload hx hb dX3_pairs_31 (lv_at hl 2 rfl) ?_
              refine lv_iload_n hx hb dX3_pairs_33 rfl (lv_at hl 5 rfl) ?_
              refine p_V (As := [.int (nI k), .int (nI i), .int (nI t)]) (rest := []) S (c_X3_window l g h X V th lc ec NN hlc hec hNN k hk i t (by omega)) (cwV 3 hts gX3_pairs_X3_window rfl rfl rfl (by decide +kernel) ⟨Nat.le_of_ble_eq_true rfl, Nat.le_of_ble_eq_true rfl⟩) hK (va_recv hK.1 hP (ci := 3) (q0 := 0) rfl rfl) (hP) rfl hl.1 rfl (Nat.le_of_ble_eq_true rfl) dX3_pairs_34 ⟨Nat.le_of_ble_eq_true rfl, Nat.le_of_ble_eq_true rfl⟩ ?_
              refine lv_aload_n hx hb dX3_pairs_37 rfl (lv_at hl 3 rfl) ?_
              refine lv_iload_n hx hb dX3_pairs_38 rfl (lv_at hl 4 rfl) ?_
              refine lv_iload hx hb dX3_pairs_39 (lv_at hl 0 rfl) ?_
              refine lv_iload_n hx hb dX3_pairs_41 rfl (lv_at hl 5 rfl) ?_
              refine p_V (As := [.int (nI k), .int (nI j), .int (nI t)]) (rest := [.int (wnF (rwV V k) i t)]) S (c_X3_window l g h X V th lc ec NN hlc hec hNN k hk j t (by omega)) (cwV 3 hts gX3_pairs_X3_window rfl rfl rfl (by decide +kernel) ⟨Nat.le_of_ble_eq_true rfl, Nat.le_of_ble_eq_true rfl⟩) hK (va_recv hK.1 hP (ci := 3) (q0 := 0) rfl rfl) (hP) rfl hl.1 rfl (Nat.le_of_ble_eq_true rfl) dX3_pairs_42 ⟨Nat.le_of_ble_eq_true rfl, Nat.le_of_ble_eq_true rfl⟩ ?_
              refine lv_icmp_ne (tgt := 68) hx hb dX3_pairs_45 (by decide) (fun c45 => ?_) (fun c45 => ?_)
              · have e68 : acF (fun a => (paP (rwV V k) t true) a i) (prM (paP (rwV V k) t true) i) j = acF (fun a => (paP (rwV V k) t true) a i) (prM (paP (rwV V k) t true) i) (j + 1) := by rw [acF, if_neg (paP_no (by first | exact Or.inl c45 | exact Or.inr ⟨rfl, c62⟩))]
                rw [e68] at hl
                refine lv_iinc (v := nI (j + 1)) (lv' := [(6, .int (nI (j + 1))), (4, .int (acF (fun a => (paP (rwV V k) t true) a i) (prM (paP (rwV V k) t true) i) (j + 1))), (5, .int (nI i)), (0, .ref (h)), (1, .int (nI k)), (2, .int (nI t)), (3, .int (1))]) hx hb dX3_pairs_68 hl (k := 0) rfl (nI_1 _) (by decide) rfl (fun ls hl => ?_)
                refine lv_goto (tgt := 22) hx hb dX3_pairs_71 (by decide) ?_
                exact ih2 (j + 1) _ (by omega) (by omega) (lv_sub hl [0, 1, 2, 3, 4, 5, 6] rfl)
              · refine lv_iload_n hx hb dX3_pairs_48 rfl (lv_at hl 6 rfl) ?_
                refine lv_if_eq (tgt := 65) hx hb dX3_pairs_49 (by decide) (fun c49 => ?_) (fun c49 => ?_)
                · exact absurd c49 (by decide +kernel)
                · refine lv_aload_n hx hb dX3_pairs_52 rfl (lv_at hl 3 rfl) ?_
                  refine lv_iload_n hx hb dX3_pairs_53 rfl (lv_at hl 4 rfl) ?_
                  refine lv_iload hx hb dX3_pairs_54 (lv_at hl 2 rfl) ?_
                  refine lv_iload hx hb dX3_pairs_56 (lv_at hl 0 rfl) ?_
                  refine lv_iload_n hx hb dX3_pairs_58 rfl (lv_at hl 5 rfl) ?_
                  refine p_V (As := [.int (nI k), .int (nI i), .int (nI j), .int (nI t)]) (rest := []) S (c_X3_isAlike l g h X V th lc ec NN hlc hec hNN k hk i j t (by omega) (by omega)) (cwV 4 hts gX3_pairs_X3_isAlike rfl rfl rfl (by decide +kernel) ⟨Nat.le_of_ble_eq_true rfl, Nat.le_of_ble_eq_true rfl⟩) hK (va_recv hK.1 hP (ci := 3) (q0 := 0) rfl rfl) (hP) rfl hl.1 rfl (Nat.le_of_ble_eq_true rfl) dX3_pairs_59 ⟨Nat.le_of_ble_eq_true rfl, Nat.le_of_ble_eq_true rfl⟩ ?_
                  refine br_neB (tgt := 68) hx hb dX3_pairs_62 (by decide) (fun c62 => ?_) (fun c62 => ?_)
                  · have e68 : acF (fun a => (paP (rwV V k) t true) a i) (prM (paP (rwV V k) t true) i) j = acF (fun a => (paP (rwV V k) t true) a i) (prM (paP (rwV V k) t true) i) (j + 1) := by rw [acF, if_neg (paP_no (by first | exact Or.inl c45 | exact Or.inr ⟨rfl, c62⟩))]
                    rw [e68] at hl
                    refine lv_iinc (v := nI (j + 1)) (lv' := [(6, .int (nI (j + 1))), (4, .int (acF (fun a => (paP (rwV V k) t true) a i) (prM (paP (rwV V k) t true) i) (j + 1))), (5, .int (nI i)), (0, .ref (h)), (1, .int (nI k)), (2, .int (nI t)), (3, .int (1))]) hx hb dX3_pairs_68 hl (k := 0) rfl (nI_1 _) (by decide) rfl (fun ls hl => ?_)
                    refine lv_goto (tgt := 22) hx hb dX3_pairs_71 (by decide) ?_
                    exact ih2 (j + 1) _ (by omega) (by omega) (lv_sub hl [0, 1, 2, 3, 4, 5, 6] rfl)
                  · refine lv_iinc (v := acF (fun a => (paP (rwV V k) t true) a i) (prM (paP (rwV V k) t true) i) (j + 1)) (lv' := [(4, .int (acF (fun a => (paP (rwV V k) t true) a i) (prM (paP (rwV V k) t true) i) (j + 1))), (6, .int (nI j)), (5, .int (nI i)), (0, .ref (h)), (1, .int (nI k)), (2, .int (nI t)), (3, .int (1))]) hx hb dX3_pairs_65 hl (k := 1) rfl (by rw [acF, if_pos (paP_yes c45 (by first | exact Or.inl rfl | exact Or.inr c62))]; rfl) (by decide) rfl (fun ls hl => ?_)
                    refine lv_iinc (v := nI (j + 1)) (lv' := [(6, .int (nI (j + 1))), (4, .int (acF (fun a => (paP (rwV V k) t true) a i) (prM (paP (rwV V k) t true) i) (j + 1))), (5, .int (nI i)), (0, .ref (h)), (1, .int (nI k)), (2, .int (nI t)), (3, .int (1))]) hx hb dX3_pairs_68 hl (k := 1) rfl (nI_1 _) (by decide) rfl (fun ls hl => ?_)
                    refine lv_goto (tgt := 22) hx hb dX3_pairs_71 (by decide) ?_
                    exact ih2 (j + 1) _ (by omega) (by omega) (lv_sub hl [0, 1, 2, 3, 4, 5, 6] rfl)
        exact L22 (i + 1) (0) _ (by omega) (by omega) (lv_sub hl [0, 2, 1, 3, 4, 5, 6] rfl)
  exact L6 ((NN k + 1 - t) + 1) (0) _ (by omega) (by omega) (lv_sub hl [0, 1, 2, 3, 4, 5] rfl)

set_option maxHeartbeats 4000000 in
set_option maxRecDepth 100000 in
/-- doublesNow -/
theorem c_X3_doublesNow (l : Launch) (g : gT) (h : Nat) (X : Nat → Nat) (V : Nat → Nat → Int32) (th : Int32) (lc ec : Nat) (NN : Nat → Nat) (hlc : lc ≤ 12) (hec : ec ≤ 24) (hNN : ∀ i, i < lc → V 0 i = nI (NN i) ∧ NN i ≤ 40) : pM g l yX3_doublesNow wsX3_doublesNow { frames := 3, cells := 0, slots := 0, locals := 68 } [.ref (h)] (fun H => va_P (gD g) vwCl (mdW g h X V th lc ec) H) (.int (prM (dbP (rwV V) NN) lc)) := by
  refine pu_ofI (cc := cX3_doublesNow) (maxL := 4) (by decide) rfl (Nat.le_of_ble_eq_true rfl) ?_
  intro p e s m args below meth c H ls Q hx hb hml hts hown hK hP hl hret
  have hl : lv_has ls 4 [(0, .ref (h))] := hl
  have S : CallFix p m c cX3_doublesNow 4 s args wsX3_doublesNow RX3 := ⟨hx, hb, hml, hown, hts⟩
  have iX3 : ∀ w ∈ u_ws RX3 TX3 12, w ∈ wsX3_doublesNow := by decide +kernel
  have f9 := hts (.fieldLink RX3 9 "LetterSealsModel" "many" "[I") (by decide +kernel)
  have f41 := hts (.fieldLink RX3 41 "LetterSealsModel" "letters" "I") (by decide +kernel)
  refine lv_iconst (v := 0) hx hb dX3_doublesNow_0 (by decide +kernel) ?_
  refine lv_istore_n (lv' := [(1, .int (0)), (0, .ref (h))]) hx hb dX3_doublesNow_1 rfl hl (by decide) rfl (fun ls hl => ?_)
  refine lv_iconst (v := nI (0)) hx hb dX3_doublesNow_2 (by decide +kernel) ?_
  refine lv_istore_n (lv' := [(2, .int (nI (0))), (1, .int (0)), (0, .ref (h))]) hx hb dX3_doublesNow_3 rfl hl (by decide) rfl (fun ls hl => ?_)
  have L4 : ∀ (k1 i : Nat) (ls : Array Slot), lc - i < k1 → i ≤ lc → lv_has ls 4 [(2, .int (nI i)), (1, .int (prM (dbP (rwV V) NN) i)), (0, .ref (h))] → W p l e { frames := 3, cells := 0, slots := 0, locals := 68 } s m args below meth c H [] 0 0 Q (F0 m 4 ls []) := by
    intro k1
    induction k1 with
    | zero => intro i ls hFu; exact absurd hFu (Nat.not_lt_zero _)
    | succ k1 ih1 =>
      intro i ls hFu hLe hl
      refine lv_iload_n hx hb dX3_doublesNow_4 rfl (lv_at hl 0 rfl) ?_
      refine lv_aload_n hx hb dX3_doublesNow_5 rfl (lv_at hl 2 rfl) ?_
      refine va_get (D := gD g) (ci := 3) (v := .int (nI lc)) (C := RX3) (T := TX3) (N := 12) hx hb hts iX3 hown hK.1 hP 0 rfl rfl 1 (by decide) f41 (fun _ h9 => h9) rfl dX3_doublesNow_6 ?_
      refine br_ge (a := i) (b := lc) (tgt := 72) hx hb (by omega) (by omega) dX3_doublesNow_9 (by decide) (fun c9 => ?_) (fun c9 => ?_)
      · have e_i : i = lc := by omega
        rw [e_i] at hl
        refine lv_iload_n hx hb dX3_doublesNow_72 rfl (lv_at hl 1 rfl) ?_
        exact hret _ _ dX3_doublesNow_73
      · have hVi := (hNN i c9).1
        have hni := (hNN i c9).2
        refine lv_iconst (v := nI (0)) hx hb dX3_doublesNow_12 (by decide +kernel) ?_
        refine lv_istore_n (lv' := [(3, .int (nI (0))), (2, .int (nI i)), (1, .int (prM (dbP (rwV V) NN) i)), (0, .ref (h))]) hx hb dX3_doublesNow_13 rfl hl (by decide) rfl (fun ls hl => ?_)
        have L14 : ∀ (k2 j : Nat) (ls : Array Slot), i - j < k2 → j ≤ i → lv_has ls 4 [(3, .int (nI j)), (1, .int (acF (fun a => (dbP (rwV V) NN) a i) (prM (dbP (rwV V) NN) i) j)), (2, .int (nI i)), (0, .ref (h))] → W p l e { frames := 3, cells := 0, slots := 0, locals := 68 } s m args below meth c H [] 0 0 Q (F0 m 14 ls []) := by
          intro k2
          induction k2 with
          | zero => intro j ls hFu; exact absurd hFu (Nat.not_lt_zero _)
          | succ k2 ih2 =>
            intro j ls hFu hLe hl
            refine lv_iload_n hx hb dX3_doublesNow_14 rfl (lv_at hl 0 rfl) ?_
            refine lv_iload_n hx hb dX3_doublesNow_15 rfl (lv_at hl 2 rfl) ?_
            refine br_ge (a := j) (b := i) (tgt := 66) hx hb (by omega) (by omega) dX3_doublesNow_16 (by decide) (fun c16 => ?_) (fun c16 => ?_)
            · have e_j : j = i := by omega
              rw [e_j] at hl
              refine lv_iinc (v := nI (i + 1)) (lv' := [(2, .int (nI (i + 1))), (3, .int (nI i)), (1, .int (acF (fun a => (dbP (rwV V) NN) a i) (prM (dbP (rwV V) NN) i) i)), (0, .ref (h))]) hx hb dX3_doublesNow_66 hl (k := 2) rfl (nI_1 _) (by decide) rfl (fun ls hl => ?_)
              refine lv_goto (tgt := 4) hx hb dX3_doublesNow_69 (by decide) ?_
              exact ih1 (i + 1) _ (by omega) (by omega) (lv_sub hl [0, 2, 3] rfl)
            · have hVj := (hNN j (by omega)).1
              have hnj := (hNN j (by omega)).2
              refine lv_aload_n hx hb dX3_doublesNow_19 rfl (lv_at hl 3 rfl) ?_
              refine lv_iload_n hx hb dX3_doublesNow_20 rfl (lv_at hl 2 rfl) ?_
              refine p_V (As := [.int (nI i)]) (rest := []) S (c_X3_digestNow l g h X V th lc ec NN hlc hec hNN i c9) (cwV 1 hts gX3_doublesNow_X3_digestNow rfl rfl rfl (by decide +kernel) ⟨Nat.le_of_ble_eq_true rfl, Nat.le_of_ble_eq_true rfl⟩) hK (va_recv hK.1 hP (ci := 3) (q0 := 0) rfl rfl) (hP) rfl hl.1 rfl (Nat.le_of_ble_eq_true rfl) dX3_doublesNow_21 ⟨Nat.le_of_ble_eq_true rfl, Nat.le_of_ble_eq_true rfl⟩ ?_
              refine lv_aload_n hx hb dX3_doublesNow_24 rfl (lv_at hl 3 rfl) ?_
              refine lv_iload_n hx hb dX3_doublesNow_25 rfl (lv_at hl 0 rfl) ?_
              refine p_V (As := [.int (nI j)]) (rest := [.int (dgF (rwV V i) (NN i))]) S (c_X3_digestNow l g h X V th lc ec NN hlc hec hNN j (by omega)) (cwV 1 hts gX3_doublesNow_X3_digestNow rfl rfl rfl (by decide +kernel) ⟨Nat.le_of_ble_eq_true rfl, Nat.le_of_ble_eq_true rfl⟩) hK (va_recv hK.1 hP (ci := 3) (q0 := 0) rfl rfl) (hP) rfl hl.1 rfl (Nat.le_of_ble_eq_true rfl) dX3_doublesNow_26 ⟨Nat.le_of_ble_eq_true rfl, Nat.le_of_ble_eq_true rfl⟩ ?_
              refine lv_icmp_ne (tgt := 60) hx hb dX3_doublesNow_29 (by decide) (fun c29 => ?_) (fun c29 => ?_)
              · have e60 : acF (fun a => (dbP (rwV V) NN) a i) (prM (dbP (rwV V) NN) i) j = acF (fun a => (dbP (rwV V) NN) a i) (prM (dbP (rwV V) NN) i) (j + 1) := by rw [acF, if_neg (dbP_no (by first | exact Or.inl c29 | exact Or.inr ⟨c44, c54⟩))]
                rw [e60] at hl
                refine lv_iinc (v := nI (j + 1)) (lv' := [(3, .int (nI (j + 1))), (1, .int (acF (fun a => (dbP (rwV V) NN) a i) (prM (dbP (rwV V) NN) i) (j + 1))), (2, .int (nI i)), (0, .ref (h))]) hx hb dX3_doublesNow_60 hl (k := 0) rfl (nI_1 _) (by decide) rfl (fun ls hl => ?_)
                refine lv_goto (tgt := 14) hx hb dX3_doublesNow_63 (by decide) ?_
                exact ih2 (j + 1) _ (by omega) (by omega) (lv_sub hl [0, 1, 2, 3] rfl)
              · refine lv_aload_n hx hb dX3_doublesNow_32 rfl (lv_at hl 3 rfl) ?_
                refine va_get (D := gD g) (ci := 3) (v := .ref (X 0)) (C := RX3) (T := TX3) (N := 12) hx hb hts iX3 hown hK.1 hP 0 rfl rfl 2 (by decide) f9 (fun _ h9 => h9) rfl dX3_doublesNow_33 ?_
                refine lv_iload_n hx hb dX3_doublesNow_36 rfl (lv_at hl 2 rfl) ?_
                refine ld_I (k := i) (n := 12) (f := V 0) hx hb hK.1 hP 1 rfl (by omega) (by omega) dX3_doublesNow_37 ?_
                refine lv_toI (z := nI (NN i)) (hVi) ?_
                refine lv_aload_n hx hb dX3_doublesNow_38 rfl (lv_at hl 3 rfl) ?_
                refine va_get (D := gD g) (ci := 3) (v := .ref (X 0)) (C := RX3) (T := TX3) (N := 12) hx hb hts iX3 hown hK.1 hP 0 rfl rfl 2 (by decide) f9 (fun _ h9 => h9) rfl dX3_doublesNow_39 ?_
                refine lv_iload_n hx hb dX3_doublesNow_42 rfl (lv_at hl 0 rfl) ?_
                refine ld_I (k := j) (n := 12) (f := V 0) hx hb hK.1 hP 1 rfl (by omega) (by omega) dX3_doublesNow_43 ?_
                refine lv_toI (z := nI (NN j)) (hVj) ?_
                refine br_ne (a := NN i) (b := NN j) (tgt := 57) hx hb (by omega) (by omega) dX3_doublesNow_44 (by decide) (fun c44 => ?_) (fun c44 => ?_)
                · refine lv_iinc (v := acF (fun a => (dbP (rwV V) NN) a i) (prM (dbP (rwV V) NN) i) (j + 1)) (lv' := [(1, .int (acF (fun a => (dbP (rwV V) NN) a i) (prM (dbP (rwV V) NN) i) (j + 1))), (3, .int (nI j)), (2, .int (nI i)), (0, .ref (h))]) hx hb dX3_doublesNow_57 hl (k := 1) rfl (by rw [acF, if_pos (dbP_yes c29 (by first | exact Or.inl c44 | exact Or.inr c54))]; rfl) (by decide) rfl (fun ls hl => ?_)
                  refine lv_iinc (v := nI (j + 1)) (lv' := [(3, .int (nI (j + 1))), (1, .int (acF (fun a => (dbP (rwV V) NN) a i) (prM (dbP (rwV V) NN) i) (j + 1))), (2, .int (nI i)), (0, .ref (h))]) hx hb dX3_doublesNow_60 hl (k := 1) rfl (nI_1 _) (by decide) rfl (fun ls hl => ?_)
                  refine lv_goto (tgt := 14) hx hb dX3_doublesNow_63 (by decide) ?_
                  exact ih2 (j + 1) _ (by omega) (by omega) (lv_sub hl [0, 1, 2, 3] rfl)
                · refine lv_aload_n hx hb dX3_doublesNow_47 rfl (lv_at hl 3 rfl) ?_
                  refine lv_iload_n hx hb dX3_doublesNow_48 rfl (lv_at hl 2 rfl) ?_
                  refine lv_iconst (v := nI (0)) hx hb dX3_doublesNow_49 (by decide +kernel) ?_
                  refine lv_iload_n hx hb dX3_doublesNow_50 rfl (lv_at hl 0 rfl) ?_
                  refine p_V (As := [.int (nI i), .int (nI (0)), .int (nI j)]) (rest := []) S (c_X3_hasFrom l g h X V th lc ec NN hlc hec hNN i c9 j (by omega) 0 (by omega)) (cwV 3 hts gX3_doublesNow_X3_hasFrom rfl rfl rfl (by decide +kernel) ⟨Nat.le_of_ble_eq_true rfl, Nat.le_of_ble_eq_true rfl⟩) hK (va_recv hK.1 hP (ci := 3) (q0 := 0) rfl rfl) (hP) rfl hl.1 rfl (Nat.le_of_ble_eq_true rfl) dX3_doublesNow_51 ⟨Nat.le_of_ble_eq_true rfl, Nat.le_of_ble_eq_true rfl⟩ ?_
                  refine br_neB (tgt := 60) hx hb dX3_doublesNow_54 (by decide) (fun c54 => ?_) (fun c54 => ?_)
                  · have e60 : acF (fun a => (dbP (rwV V) NN) a i) (prM (dbP (rwV V) NN) i) j = acF (fun a => (dbP (rwV V) NN) a i) (prM (dbP (rwV V) NN) i) (j + 1) := by rw [acF, if_neg (dbP_no (by first | exact Or.inl c29 | exact Or.inr ⟨c44, c54⟩))]
                    rw [e60] at hl
                    refine lv_iinc (v := nI (j + 1)) (lv' := [(3, .int (nI (j + 1))), (1, .int (acF (fun a => (dbP (rwV V) NN) a i) (prM (dbP (rwV V) NN) i) (j + 1))), (2, .int (nI i)), (0, .ref (h))]) hx hb dX3_doublesNow_60 hl (k := 0) rfl (nI_1 _) (by decide) rfl (fun ls hl => ?_)
                    refine lv_goto (tgt := 14) hx hb dX3_doublesNow_63 (by decide) ?_
                    exact ih2 (j + 1) _ (by omega) (by omega) (lv_sub hl [0, 1, 2, 3] rfl)
                  · refine lv_iinc (v := acF (fun a => (dbP (rwV V) NN) a i) (prM (dbP (rwV V) NN) i) (j + 1)) (lv' := [(1, .int (acF (fun a => (dbP (rwV V) NN) a i) (prM (dbP (rwV V) NN) i) (j + 1))), (3, .int (nI j)), (2, .int (nI i)), (0, .ref (h))]) hx hb dX3_doublesNow_57 hl (k := 1) rfl (by rw [acF, if_pos (dbP_yes c29 (by first | exact Or.inl c44 | exact Or.inr c54))]; rfl) (by decide) rfl (fun ls hl => ?_)
                    refine lv_iinc (v := nI (j + 1)) (lv' := [(3, .int (nI (j + 1))), (1, .int (acF (fun a => (dbP (rwV V) NN) a i) (prM (dbP (rwV V) NN) i) (j + 1))), (2, .int (nI i)), (0, .ref (h))]) hx hb dX3_doublesNow_60 hl (k := 1) rfl (nI_1 _) (by decide) rfl (fun ls hl => ?_)
                    refine lv_goto (tgt := 14) hx hb dX3_doublesNow_63 (by decide) ?_
                    exact ih2 (j + 1) _ (by omega) (by omega) (lv_sub hl [0, 1, 2, 3] rfl)
        exact L14 (i + 1) (0) _ (by omega) (by omega) (lv_sub hl [0, 2, 1, 3] rfl)
  exact L4 (lc + 1) (0) _ (by omega) (by omega) (lv_sub hl [0, 1, 2] rfl)

set_option maxHeartbeats 4000000 in
set_option maxRecDepth 100000 in
/-- isAsWritten -/
theorem c_X3_isAsWritten (l : Launch) (g : gT) (h : Nat) (X : Nat → Nat) (V : Nat → Nat → Int32) (th : Int32) (lc ec : Nat) (NN : Nat → Nat) (hlc : lc ≤ 12) (hec : ec ≤ 24) (hNN : ∀ i, i < lc → V 0 i = nI (NN i) ∧ NN i ≤ 40) (LN SC : Nat → Nat) (hEN : ∀ q, q < ec → V 2 q = nI (LN q) ∧ LN q < lc ∧ V 4 q = nI (SC q) ∧ SC q ≤ 40) (q : Nat) (hq : q < ec) : pM g l yX3_isAsWritten wsX3_isAsWritten { frames := 3, cells := 0, slots := 0, locals := 68 } [.ref (h), .int (nI q)] (fun H => va_P (gD g) vwCl (mdW g h X V th lc ec) H) (.int (bI (asP V NN LN q))) := by
  refine pu_ofZ (cc := cX3_isAsWritten) (maxL := 2) (bI_n _) (by decide) rfl (Nat.le_of_ble_eq_true rfl) ?_
  intro p e s m args below meth c H ls Q hx hb hml hts hown hK hP hl hret
  have hl : lv_has ls 2 [(0, .ref (h)), (1, .int (nI q))] := hl
  have S : CallFix p m c cX3_isAsWritten 2 s args wsX3_isAsWritten RX3 := ⟨hx, hb, hml, hown, hts⟩
  have hLN := (hEN q hq).1
  have hLl := (hEN q hq).2.1
  have hSC := (hEN q hq).2.2.1
  have hSl := (hEN q hq).2.2.2
  have hVn := (hNN _ hLl).1
  have hn := (hNN _ hLl).2
  have iX3 : ∀ w ∈ u_ws RX3 TX3 12, w ∈ wsX3_isAsWritten := by decide +kernel
  have f16 := hts (.fieldLink RX3 16 "LetterSealsModel" "of" "[I") (by decide +kernel)
  have f19 := hts (.fieldLink RX3 19 "LetterSealsModel" "written" "[I") (by decide +kernel)
  refine lv_aload_n hx hb dX3_isAsWritten_0 rfl (lv_at hl 0 rfl) ?_
  refine lv_aload_n hx hb dX3_isAsWritten_1 rfl (lv_at hl 0 rfl) ?_
  refine va_get (D := gD g) (ci := 3) (v := .ref (X 2)) (C := RX3) (T := TX3) (N := 12) hx hb hts iX3 hown hK.1 hP 0 rfl rfl 5 (by decide) f16 (fun _ h9 => h9) rfl dX3_isAsWritten_2 ?_
  refine lv_iload_n hx hb dX3_isAsWritten_5 rfl (lv_at hl 1 rfl) ?_
  refine ld_I (k := q) (n := 24) (f := V 2) hx hb hK.1 hP 3 rfl (by omega) (by omega) dX3_isAsWritten_6 ?_
  refine lv_toI (z := nI (LN q)) (hLN) ?_
  refine p_V (As := [.int (nI (LN q))]) (rest := []) S (c_X3_digestNow l g h X V th lc ec NN hlc hec hNN (LN q) hLl) (cwV 1 hts gX3_isAsWritten_X3_digestNow rfl rfl rfl (by decide +kernel) ⟨Nat.le_of_ble_eq_true rfl, Nat.le_of_ble_eq_true rfl⟩) hK (va_recv hK.1 hP (ci := 3) (q0 := 0) rfl rfl) (hP) rfl hl.1 rfl (Nat.le_of_ble_eq_true rfl) dX3_isAsWritten_7 ⟨Nat.le_of_ble_eq_true rfl, Nat.le_of_ble_eq_true rfl⟩ ?_
  refine lv_aload_n hx hb dX3_isAsWritten_10 rfl (lv_at hl 0 rfl) ?_
  refine va_get (D := gD g) (ci := 3) (v := .ref (X 3)) (C := RX3) (T := TX3) (N := 12) hx hb hts iX3 hown hK.1 hP 0 rfl rfl 6 (by decide) f19 (fun _ h9 => h9) rfl dX3_isAsWritten_11 ?_
  refine lv_iload_n hx hb dX3_isAsWritten_14 rfl (lv_at hl 1 rfl) ?_
  refine ld_I (k := q) (n := 24) (f := V 3) hx hb hK.1 hP 4 rfl (by omega) (by omega) dX3_isAsWritten_15 ?_
  refine lv_icmp_ne (tgt := 23) hx hb dX3_isAsWritten_16 (by decide) (fun c16 => ?_) (fun c16 => ?_)
  · refine lv_iconst (v := bI false) hx hb dX3_isAsWritten_23 (by decide +kernel) ?_
    refine lv_toI (z := bI (asP V NN LN q)) (by unfold asP; first | (rw [decide_eq_true c16]; done) | (rw [decide_eq_false c16]; done)) ?_
    exact hret _ _ dX3_isAsWritten_24
  · refine lv_iconst (v := bI true) hx hb dX3_isAsWritten_19 (by decide +kernel) ?_
    refine lv_goto (tgt := 24) hx hb dX3_isAsWritten_20 (by decide) ?_
    refine lv_toI (z := bI (asP V NN LN q)) (by unfold asP; first | (rw [decide_eq_true c16]; done) | (rw [decide_eq_false c16]; done)) ?_
    exact hret _ _ dX3_isAsWritten_24

set_option maxHeartbeats 4000000 in
set_option maxRecDepth 100000 in
/-- broken -/
theorem c_X3_broken (l : Launch) (g : gT) (h : Nat) (X : Nat → Nat) (V : Nat → Nat → Int32) (th : Int32) (lc ec : Nat) (NN : Nat → Nat) (hlc : lc ≤ 12) (hec : ec ≤ 24) (hNN : ∀ i, i < lc → V 0 i = nI (NN i) ∧ NN i ≤ 40) (LN SC : Nat → Nat) (hEN : ∀ q, q < ec → V 2 q = nI (LN q) ∧ LN q < lc ∧ V 4 q = nI (SC q) ∧ SC q ≤ 40) : pM g l yX3_broken wsX3_broken { frames := 4, cells := 0, slots := 0, locals := 89 } [.ref (h)] (fun H => va_P (gD g) vwCl (mdW g h X V th lc ec) H) (.int (fsF (fun q => !asP V NN LN q) ec 0)) := by
  refine pu_ofI (cc := cX3_broken) (maxL := 2) (by decide) rfl (Nat.le_of_ble_eq_true rfl) ?_
  intro p e s m args below meth c H ls Q hx hb hml hts hown hK hP hl hret
  have hl : lv_has ls 2 [(0, .ref (h))] := hl
  have S : CallFix p m c cX3_broken 2 s args wsX3_broken RX3 := ⟨hx, hb, hml, hown, hts⟩
  have iX3 : ∀ w ∈ u_ws RX3 TX3 12, w ∈ wsX3_broken := by decide +kernel
  have f48 := hts (.fieldLink RX3 48 "LetterSealsModel" "envelopes" "I") (by decide +kernel)
  refine lv_iconst (v := nI (0)) hx hb dX3_broken_0 (by decide +kernel) ?_
  refine lv_istore_n (lv' := [(1, .int (nI (0))), (0, .ref (h))]) hx hb dX3_broken_1 rfl hl (by decide) rfl (fun ls hl => ?_)
  have L2 : ∀ (k1 i : Nat) (ls : Array Slot), ec - i < k1 → i ≤ ec → (fsF (fun q => !asP V NN LN q) ec 0 = fsF (fun q => !asP V NN LN q) (ec - i) i) → lv_has ls 2 [(1, .int (nI i)), (0, .ref (h))] → W p l e { frames := 4, cells := 0, slots := 0, locals := 89 } s m args below meth c H [] 0 0 Q (F0 m 2 ls []) := by
    intro k1
    induction k1 with
    | zero => intro i ls hFu; exact absurd hFu (Nat.not_lt_zero _)
    | succ k1 ih1 =>
      intro i ls hFu hLe he hl
      refine lv_iload_n hx hb dX3_broken_2 rfl (lv_at hl 0 rfl) ?_
      refine lv_aload_n hx hb dX3_broken_3 rfl (lv_at hl 1 rfl) ?_
      refine va_get (D := gD g) (ci := 3) (v := .int (nI ec)) (C := RX3) (T := TX3) (N := 12) hx hb hts iX3 hown hK.1 hP 0 rfl rfl 4 (by decide) f48 (fun _ h9 => h9) rfl dX3_broken_4 ?_
      refine br_ge (a := i) (b := ec) (tgt := 26) hx hb (by omega) (by omega) dX3_broken_7 (by decide) (fun c7 => ?_) (fun c7 => ?_)
      · refine lv_iconst (v := (-1)) hx hb dX3_broken_26 (by decide +kernel) ?_
        refine lv_toI (z := fsF (fun q => !asP V NN LN q) ec 0) (by rw [he, show ec - i = 0 by omega]; rfl) ?_
        exact hret _ _ dX3_broken_27
      · refine lv_aload_n hx hb dX3_broken_10 rfl (lv_at hl 1 rfl) ?_
        refine lv_iload_n hx hb dX3_broken_11 rfl (lv_at hl 0 rfl) ?_
        refine p_V (As := [.int (nI i)]) (rest := []) S (c_X3_isAsWritten l g h X V th lc ec NN hlc hec hNN LN SC hEN i c7) (cwV 1 hts gX3_broken_X3_isAsWritten rfl rfl rfl (by decide +kernel) ⟨Nat.le_of_ble_eq_true rfl, Nat.le_of_ble_eq_true rfl⟩) hK (va_recv hK.1 hP (ci := 3) (q0 := 0) rfl rfl) (hP) rfl hl.1 rfl (Nat.le_of_ble_eq_true rfl) dX3_broken_12 ⟨Nat.le_of_ble_eq_true rfl, Nat.le_of_ble_eq_true rfl⟩ ?_
        refine br_neB (tgt := 20) hx hb dX3_broken_15 (by decide) (fun c15 => ?_) (fun c15 => ?_)
        · refine lv_iinc (v := nI (i + 1)) (lv' := [(1, .int (nI (i + 1))), (0, .ref (h))]) hx hb dX3_broken_20 hl (k := 0) rfl (nI_1 _) (by decide) rfl (fun ls hl => ?_)
          refine lv_goto (tgt := 2) hx hb dX3_broken_23 (by decide) ?_
          exact ih1 (i + 1) _ (by omega) (by omega) (he.trans (fsF_no c7 (by rw [c15]; rfl))) (lv_sub hl [0, 1] rfl)
        · refine lv_iload_n hx hb dX3_broken_18 rfl (lv_at hl 0 rfl) ?_
          refine lv_toI (z := fsF (fun q => !asP V NN LN q) ec 0) ((he.trans (fsF_yes (by omega) (by rw [c15]; rfl))).symm) ?_
          exact hret _ _ dX3_broken_19
  exact L2 (ec + 1) (0) _ (by omega) (by omega) (rfl) (lv_sub hl [0, 1] rfl)

set_option maxHeartbeats 4000000 in
set_option maxRecDepth 100000 in
/-- isTorn -/
theorem c_X3_isTorn (l : Launch) (g : gT) (h : Nat) (X : Nat → Nat) (V : Nat → Nat → Int32) (th : Int32) (lc ec : Nat) (NN : Nat → Nat) (hlc : lc ≤ 12) (hec : ec ≤ 24) (hNN : ∀ i, i < lc → V 0 i = nI (NN i) ∧ NN i ≤ 40) (LN SC : Nat → Nat) (hEN : ∀ q, q < ec → V 2 q = nI (LN q) ∧ LN q < lc ∧ V 4 q = nI (SC q) ∧ SC q ≤ 40) (q : Nat) (hq : q < ec) (u : Nat) (hu : u < 8) : pM g l yX3_isTorn wsX3_isTorn { frames := 2, cells := 0, slots := 0, locals := 46 } [.ref (h), .int (nI q), .int (nI u)] (fun H => va_P (gD g) vwCl (mdW g h X V th lc ec) H) (.int (bI (toP V NN LN SC q u))) := by
  refine pu_ofZ (cc := cX3_isTorn) (maxL := 5) (bI_n _) (by decide) rfl (Nat.le_of_ble_eq_true rfl) ?_
  intro p e s m args below meth c H ls Q hx hb hml hts hown hK hP hl hret
  have hl : lv_has ls 5 [(0, .ref (h)), (1, .int (nI q)), (2, .int (nI u))] := hl
  have S : CallFix p m c cX3_isTorn 5 s args wsX3_isTorn RX3 := ⟨hx, hb, hml, hown, hts⟩
  have hLN := (hEN q hq).1
  have hLl := (hEN q hq).2.1
  have hSC := (hEN q hq).2.2.1
  have hSl := (hEN q hq).2.2.2
  have hVn := (hNN _ hLl).1
  have hn := (hNN _ hLl).2
  have iX3 : ∀ w ∈ u_ws RX3 TX3 12, w ∈ wsX3_isTorn := by decide +kernel
  have f9 := hts (.fieldLink RX3 9 "LetterSealsModel" "many" "[I") (by decide +kernel)
  have f16 := hts (.fieldLink RX3 16 "LetterSealsModel" "of" "[I") (by decide +kernel)
  have f22 := hts (.fieldLink RX3 22 "LetterSealsModel" "had" "[I") (by decide +kernel)
  have f25 := hts (.fieldLink RX3 25 "LetterSealsModel" "blocks" "[I") (by decide +kernel)
  refine lv_iload_n hx hb dX3_isTorn_0 rfl (lv_at hl 2 rfl) ?_
  refine lv_aload_n hx hb dX3_isTorn_1 rfl (lv_at hl 0 rfl) ?_
  refine va_get (D := gD g) (ci := 3) (v := .ref (X 4)) (C := RX3) (T := TX3) (N := 12) hx hb hts iX3 hown hK.1 hP 0 rfl rfl 7 (by decide) f22 (fun _ h9 => h9) rfl dX3_isTorn_2 ?_
  refine lv_iload_n hx hb dX3_isTorn_5 rfl (lv_at hl 1 rfl) ?_
  refine ld_I (k := q) (n := 24) (f := V 4) hx hb hK.1 hP 5 rfl (by omega) (by omega) dX3_isTorn_6 ?_
  refine lv_toI (z := nI (SC q)) (hSC) ?_
  refine p_S (As := [.int (nI (SC q))]) (rest := [.int (nI u)]) S (c_X3_blocksOf l g (SC q) hSl) (cwS 1 hts gX3_isTorn_X3_blocksOf rfl rfl rfl (by decide +kernel) ⟨Nat.le_of_ble_eq_true rfl, Nat.le_of_ble_eq_true rfl⟩) hK (trivial) rfl hl.1 rfl (Nat.le_of_ble_eq_true rfl) dX3_isTorn_7 ⟨Nat.le_of_ble_eq_true rfl, Nat.le_of_ble_eq_true rfl⟩ ?_
  refine br_ge (a := u) (b := (SC q + 4) / 5) (tgt := 17) hx hb (by omega) (by omega) dX3_isTorn_10 (by decide) (fun c10 => ?_) (fun c10 => ?_)
  · refine lv_iconst (v := bI false) hx hb dX3_isTorn_17 (by decide +kernel) ?_
    refine lv_istore_n (lv' := [(3, .int (bI false)), (0, .ref (h)), (1, .int (nI q)), (2, .int (nI u))]) hx hb dX3_isTorn_18 rfl hl (by decide) rfl (fun ls hl => ?_)
    refine lv_iload_n hx hb dX3_isTorn_19 rfl (lv_at hl 3 rfl) ?_
    refine lv_aload_n hx hb dX3_isTorn_20 rfl (lv_at hl 1 rfl) ?_
    refine va_get (D := gD g) (ci := 3) (v := .ref (X 0)) (C := RX3) (T := TX3) (N := 12) hx hb hts iX3 hown hK.1 hP 0 rfl rfl 2 (by decide) f9 (fun _ h9 => h9) rfl dX3_isTorn_21 ?_
    refine lv_aload_n hx hb dX3_isTorn_24 rfl (lv_at hl 1 rfl) ?_
    refine va_get (D := gD g) (ci := 3) (v := .ref (X 2)) (C := RX3) (T := TX3) (N := 12) hx hb hts iX3 hown hK.1 hP 0 rfl rfl 5 (by decide) f16 (fun _ h9 => h9) rfl dX3_isTorn_25 ?_
    refine lv_iload_n hx hb dX3_isTorn_28 rfl (lv_at hl 2 rfl) ?_
    refine ld_I (k := q) (n := 24) (f := V 2) hx hb hK.1 hP 3 rfl (by omega) (by omega) dX3_isTorn_29 ?_
    refine lv_toI (z := nI (LN q)) (hLN) ?_
    refine ld_I (k := LN q) (n := 12) (f := V 0) hx hb hK.1 hP 1 rfl (by omega) (by omega) dX3_isTorn_30 ?_
    refine lv_toI (z := nI (NN (LN q))) (hVn) ?_
    refine p_S (As := [.int (nI (NN (LN q)))]) (rest := [.int (nI u)]) S (c_X3_blocksOf l g (NN (LN q)) hn) (cwS 1 hts gX3_isTorn_X3_blocksOf rfl rfl rfl (by decide +kernel) ⟨Nat.le_of_ble_eq_true rfl, Nat.le_of_ble_eq_true rfl⟩) hK (trivial) rfl hl.1 rfl (Nat.le_of_ble_eq_true rfl) dX3_isTorn_31 ⟨Nat.le_of_ble_eq_true rfl, Nat.le_of_ble_eq_true rfl⟩ ?_
    refine br_ge (a := u) (b := (NN (LN q) + 4) / 5) (tgt := 41) hx hb (by omega) (by omega) dX3_isTorn_34 (by decide) (fun c34 => ?_) (fun c34 => ?_)
    · refine lv_iconst (v := bI false) hx hb dX3_isTorn_41 (by decide +kernel) ?_
      refine lv_istore (lv' := [(4, .int (bI false)), (3, .int (bI false)), (0, .ref (h)), (1, .int (nI q)), (2, .int (nI u))]) hx hb dX3_isTorn_42 hl (by decide) rfl (fun ls hl => ?_)
      refine lv_iload_n hx hb dX3_isTorn_44 rfl (lv_at hl 1 rfl) ?_
      refine lv_iload hx hb dX3_isTorn_45 (lv_at hl 0 rfl) ?_
      refine lv_icmp_ne (tgt := 80) hx hb dX3_isTorn_47 (by decide) (fun c47 => ?_) (fun c47 => ?_)
      · exact absurd rfl c47
      · refine lv_iload hx hb dX3_isTorn_50 (lv_at hl 0 rfl) ?_
        refine br_eqB (tgt := 84) hx hb dX3_isTorn_52 (by decide) (fun c52 => ?_) (fun c52 => ?_)
        · refine lv_iconst (v := bI false) hx hb dX3_isTorn_84 (by decide +kernel) ?_
          refine lv_toI (z := bI (toP V NN LN SC q u)) (by unfold toP; first | (rw [decide_eq_true c10, decide_eq_false (Nat.not_lt.mpr c34)]; rfl) | (rw [decide_eq_false (Nat.not_lt.mpr c10), decide_eq_true c34]; rfl) | (rw [decide_eq_false (Nat.not_lt.mpr c10), decide_eq_false (Nat.not_lt.mpr c34)]; rfl) | (rw [decide_eq_true c10, decide_eq_true c34, decide_eq_true c77]; rfl) | (rw [decide_eq_true c10, decide_eq_true c34, decide_eq_false (fun z => z c77)]; rfl)) ?_
          exact hret _ _ dX3_isTorn_85
        · exact absurd c52 (by decide)
    · refine lv_iconst (v := bI true) hx hb dX3_isTorn_37 (by decide +kernel) ?_
      refine lv_goto (tgt := 42) hx hb dX3_isTorn_38 (by decide) ?_
      refine lv_istore (lv' := [(4, .int (bI true)), (3, .int (bI false)), (0, .ref (h)), (1, .int (nI q)), (2, .int (nI u))]) hx hb dX3_isTorn_42 hl (by decide) rfl (fun ls hl => ?_)
      refine lv_iload_n hx hb dX3_isTorn_44 rfl (lv_at hl 1 rfl) ?_
      refine lv_iload hx hb dX3_isTorn_45 (lv_at hl 0 rfl) ?_
      refine lv_icmp_ne (tgt := 80) hx hb dX3_isTorn_47 (by decide) (fun c47 => ?_) (fun c47 => ?_)
      · refine lv_iconst (v := bI true) hx hb dX3_isTorn_80 (by decide +kernel) ?_
        refine lv_goto (tgt := 85) hx hb dX3_isTorn_81 (by decide) ?_
        refine lv_toI (z := bI (toP V NN LN SC q u)) (by unfold toP; first | (rw [decide_eq_true c10, decide_eq_false (Nat.not_lt.mpr c34)]; rfl) | (rw [decide_eq_false (Nat.not_lt.mpr c10), decide_eq_true c34]; rfl) | (rw [decide_eq_false (Nat.not_lt.mpr c10), decide_eq_false (Nat.not_lt.mpr c34)]; rfl) | (rw [decide_eq_true c10, decide_eq_true c34, decide_eq_true c77]; rfl) | (rw [decide_eq_true c10, decide_eq_true c34, decide_eq_false (fun z => z c77)]; rfl)) ?_
        exact hret _ _ dX3_isTorn_85
      · exact absurd c47 (by decide +kernel)
  · refine lv_iconst (v := bI true) hx hb dX3_isTorn_13 (by decide +kernel) ?_
    refine lv_goto (tgt := 18) hx hb dX3_isTorn_14 (by decide) ?_
    refine lv_istore_n (lv' := [(3, .int (bI true)), (0, .ref (h)), (1, .int (nI q)), (2, .int (nI u))]) hx hb dX3_isTorn_18 rfl hl (by decide) rfl (fun ls hl => ?_)
    refine lv_iload_n hx hb dX3_isTorn_19 rfl (lv_at hl 3 rfl) ?_
    refine lv_aload_n hx hb dX3_isTorn_20 rfl (lv_at hl 1 rfl) ?_
    refine va_get (D := gD g) (ci := 3) (v := .ref (X 0)) (C := RX3) (T := TX3) (N := 12) hx hb hts iX3 hown hK.1 hP 0 rfl rfl 2 (by decide) f9 (fun _ h9 => h9) rfl dX3_isTorn_21 ?_
    refine lv_aload_n hx hb dX3_isTorn_24 rfl (lv_at hl 1 rfl) ?_
    refine va_get (D := gD g) (ci := 3) (v := .ref (X 2)) (C := RX3) (T := TX3) (N := 12) hx hb hts iX3 hown hK.1 hP 0 rfl rfl 5 (by decide) f16 (fun _ h9 => h9) rfl dX3_isTorn_25 ?_
    refine lv_iload_n hx hb dX3_isTorn_28 rfl (lv_at hl 2 rfl) ?_
    refine ld_I (k := q) (n := 24) (f := V 2) hx hb hK.1 hP 3 rfl (by omega) (by omega) dX3_isTorn_29 ?_
    refine lv_toI (z := nI (LN q)) (hLN) ?_
    refine ld_I (k := LN q) (n := 12) (f := V 0) hx hb hK.1 hP 1 rfl (by omega) (by omega) dX3_isTorn_30 ?_
    refine lv_toI (z := nI (NN (LN q))) (hVn) ?_
    refine p_S (As := [.int (nI (NN (LN q)))]) (rest := [.int (nI u)]) S (c_X3_blocksOf l g (NN (LN q)) hn) (cwS 1 hts gX3_isTorn_X3_blocksOf rfl rfl rfl (by decide +kernel) ⟨Nat.le_of_ble_eq_true rfl, Nat.le_of_ble_eq_true rfl⟩) hK (trivial) rfl hl.1 rfl (Nat.le_of_ble_eq_true rfl) dX3_isTorn_31 ⟨Nat.le_of_ble_eq_true rfl, Nat.le_of_ble_eq_true rfl⟩ ?_
    refine br_ge (a := u) (b := (NN (LN q) + 4) / 5) (tgt := 41) hx hb (by omega) (by omega) dX3_isTorn_34 (by decide) (fun c34 => ?_) (fun c34 => ?_)
    · refine lv_iconst (v := bI false) hx hb dX3_isTorn_41 (by decide +kernel) ?_
      refine lv_istore (lv' := [(4, .int (bI false)), (3, .int (bI true)), (0, .ref (h)), (1, .int (nI q)), (2, .int (nI u))]) hx hb dX3_isTorn_42 hl (by decide) rfl (fun ls hl => ?_)
      refine lv_iload_n hx hb dX3_isTorn_44 rfl (lv_at hl 1 rfl) ?_
      refine lv_iload hx hb dX3_isTorn_45 (lv_at hl 0 rfl) ?_
      refine lv_icmp_ne (tgt := 80) hx hb dX3_isTorn_47 (by decide) (fun c47 => ?_) (fun c47 => ?_)
      · refine lv_iconst (v := bI true) hx hb dX3_isTorn_80 (by decide +kernel) ?_
        refine lv_goto (tgt := 85) hx hb dX3_isTorn_81 (by decide) ?_
        refine lv_toI (z := bI (toP V NN LN SC q u)) (by unfold toP; first | (rw [decide_eq_true c10, decide_eq_false (Nat.not_lt.mpr c34)]; rfl) | (rw [decide_eq_false (Nat.not_lt.mpr c10), decide_eq_true c34]; rfl) | (rw [decide_eq_false (Nat.not_lt.mpr c10), decide_eq_false (Nat.not_lt.mpr c34)]; rfl) | (rw [decide_eq_true c10, decide_eq_true c34, decide_eq_true c77]; rfl) | (rw [decide_eq_true c10, decide_eq_true c34, decide_eq_false (fun z => z c77)]; rfl)) ?_
        exact hret _ _ dX3_isTorn_85
      · exact absurd c47 (by decide +kernel)
    · refine lv_iconst (v := bI true) hx hb dX3_isTorn_37 (by decide +kernel) ?_
      refine lv_goto (tgt := 42) hx hb dX3_isTorn_38 (by decide) ?_
      refine lv_istore (lv' := [(4, .int (bI true)), (3, .int (bI true)), (0, .ref (h)), (1, .int (nI q)), (2, .int (nI u))]) hx hb dX3_isTorn_42 hl (by decide) rfl (fun ls hl => ?_)
      refine lv_iload_n hx hb dX3_isTorn_44 rfl (lv_at hl 1 rfl) ?_
      refine lv_iload hx hb dX3_isTorn_45 (lv_at hl 0 rfl) ?_
      refine lv_icmp_ne (tgt := 80) hx hb dX3_isTorn_47 (by decide) (fun c47 => ?_) (fun c47 => ?_)
      · exact absurd rfl c47
      · refine lv_iload hx hb dX3_isTorn_50 (lv_at hl 0 rfl) ?_
        refine br_eqB (tgt := 84) hx hb dX3_isTorn_52 (by decide) (fun c52 => ?_) (fun c52 => ?_)
        · exact absurd c52 (by decide)
        · refine lv_aload_n hx hb dX3_isTorn_55 rfl (lv_at hl 2 rfl) ?_
          refine lv_aload_n hx hb dX3_isTorn_56 rfl (lv_at hl 2 rfl) ?_
          refine va_get (D := gD g) (ci := 3) (v := .ref (X 2)) (C := RX3) (T := TX3) (N := 12) hx hb hts iX3 hown hK.1 hP 0 rfl rfl 5 (by decide) f16 (fun _ h9 => h9) rfl dX3_isTorn_57 ?_
          refine lv_iload_n hx hb dX3_isTorn_60 rfl (lv_at hl 3 rfl) ?_
          refine ld_I (k := q) (n := 24) (f := V 2) hx hb hK.1 hP 3 rfl (by omega) (by omega) dX3_isTorn_61 ?_
          refine lv_toI (z := nI (LN q)) (hLN) ?_
          refine lv_iload_n hx hb dX3_isTorn_62 rfl (lv_at hl 4 rfl) ?_
          refine p_V (As := [.int (nI (LN q)), .int (nI u)]) (rest := []) S (c_X3_block l g h X V th lc ec NN hlc hec hNN (LN q) hLl u hu) (cwV 2 hts gX3_isTorn_X3_block rfl rfl rfl (by decide +kernel) ⟨Nat.le_of_ble_eq_true rfl, Nat.le_of_ble_eq_true rfl⟩) hK (va_recv hK.1 hP (ci := 3) (q0 := 0) rfl rfl) (hP) rfl hl.1 rfl (Nat.le_of_ble_eq_true rfl) dX3_isTorn_63 ⟨Nat.le_of_ble_eq_true rfl, Nat.le_of_ble_eq_true rfl⟩ ?_
          refine lv_aload_n hx hb dX3_isTorn_66 rfl (lv_at hl 2 rfl) ?_
          refine va_get (D := gD g) (ci := 3) (v := .ref (X 5)) (C := RX3) (T := TX3) (N := 12) hx hb hts iX3 hown hK.1 hP 0 rfl rfl 8 (by decide) f25 (fun _ h9 => h9) rfl dX3_isTorn_67 ?_
          refine lv_bipush (v := nI (8)) hx hb dX3_isTorn_70 (by decide +kernel) ?_
          refine lv_iload_n hx hb dX3_isTorn_72 rfl (lv_at hl 3 rfl) ?_
          refine lv_imul hx hb dX3_isTorn_73 ?_
          refine lv_toI (z := nI (8 * q)) (pk_mul _ _) ?_
          refine lv_iload_n hx hb dX3_isTorn_74 rfl (lv_at hl 4 rfl) ?_
          refine lv_iadd hx hb dX3_isTorn_75 ?_
          refine lv_toI (z := nI (8 * q + u)) (nI_add _ _) ?_
          refine ld_I (k := 8 * q + u) (n := 192) (f := V 5) hx hb hK.1 hP 6 rfl (by omega) (by omega) dX3_isTorn_76 ?_
          refine lv_icmp_eq (tgt := 84) hx hb dX3_isTorn_77 (by decide) (fun c77 => ?_) (fun c77 => ?_)
          · refine lv_iconst (v := bI false) hx hb dX3_isTorn_84 (by decide +kernel) ?_
            refine lv_toI (z := bI (toP V NN LN SC q u)) (by unfold toP; first | (rw [decide_eq_true c10, decide_eq_false (Nat.not_lt.mpr c34)]; rfl) | (rw [decide_eq_false (Nat.not_lt.mpr c10), decide_eq_true c34]; rfl) | (rw [decide_eq_false (Nat.not_lt.mpr c10), decide_eq_false (Nat.not_lt.mpr c34)]; rfl) | (rw [decide_eq_true c10, decide_eq_true c34, decide_eq_true c77]; rfl) | (rw [decide_eq_true c10, decide_eq_true c34, decide_eq_false (fun z => z c77)]; rfl)) ?_
            exact hret _ _ dX3_isTorn_85
          · refine lv_iconst (v := bI true) hx hb dX3_isTorn_80 (by decide +kernel) ?_
            refine lv_goto (tgt := 85) hx hb dX3_isTorn_81 (by decide) ?_
            refine lv_toI (z := bI (toP V NN LN SC q u)) (by unfold toP; first | (rw [decide_eq_true c10, decide_eq_false (Nat.not_lt.mpr c34)]; rfl) | (rw [decide_eq_false (Nat.not_lt.mpr c10), decide_eq_true c34]; rfl) | (rw [decide_eq_false (Nat.not_lt.mpr c10), decide_eq_false (Nat.not_lt.mpr c34)]; rfl) | (rw [decide_eq_true c10, decide_eq_true c34, decide_eq_true c77]; rfl) | (rw [decide_eq_true c10, decide_eq_true c34, decide_eq_false (fun z => z c77)]; rfl)) ?_
            exact hret _ _ dX3_isTorn_85

set_option maxHeartbeats 4000000 in
set_option maxRecDepth 100000 in
/-- torn, 0 -/
theorem c_X3_torn0 (l : Launch) (g : gT) (h : Nat) (X : Nat → Nat) (V : Nat → Nat → Int32) (th : Int32) (lc ec : Nat) (NN : Nat → Nat) (hlc : lc ≤ 12) (hec : ec ≤ 24) (hNN : ∀ i, i < lc → V 0 i = nI (NN i) ∧ NN i ≤ 40) (LN SC : Nat → Nat) (hEN : ∀ q, q < ec → V 2 q = nI (LN q) ∧ LN q < lc ∧ V 4 q = nI (SC q) ∧ SC q ≤ 40) (q : Nat) (hq : q < ec) : pM g l yX3_torn wsX3_torn { frames := 3, cells := 0, slots := 0, locals := 70 } [.ref (h), .int (nI q), .int (0)] (fun H => va_P (gD g) vwCl (mdW g h X V th lc ec) H) (.int (acF (toP V NN LN SC q) 0 8)) := by
  refine pu_ofI (cc := cX3_torn) (maxL := 5) (by decide) rfl (Nat.le_of_ble_eq_true rfl) ?_
  intro p e s m args below meth c H ls Q hx hb hml hts hown hK hP hl hret
  have hl : lv_has ls 5 [(0, .ref (h)), (1, .int (nI q)), (2, .int (0))] := hl
  have S : CallFix p m c cX3_torn 5 s args wsX3_torn RX3 := ⟨hx, hb, hml, hown, hts⟩
  have hLN := (hEN q hq).1
  have hLl := (hEN q hq).2.1
  have hSC := (hEN q hq).2.2.1
  have hSl := (hEN q hq).2.2.2
  have hVn := (hNN _ hLl).1
  have hn := (hNN _ hLl).2
  refine lv_iconst (v := 0) hx hb dX3_torn_0 (by decide +kernel) ?_
  refine lv_istore_n (lv' := [(3, .int (0)), (0, .ref (h)), (1, .int (nI q)), (2, .int (0))]) hx hb dX3_torn_1 rfl hl (by decide) rfl (fun ls hl => ?_)
  refine lv_iconst (v := nI (0)) hx hb dX3_torn_2 (by decide +kernel) ?_
  refine lv_istore (lv' := [(4, .int (nI (0))), (3, .int (0)), (0, .ref (h)), (1, .int (nI q)), (2, .int (0))]) hx hb dX3_torn_3 hl (by decide) rfl (fun ls hl => ?_)
  have L5 : ∀ (k1 i : Nat) (ls : Array Slot), 8 - i < k1 → i ≤ 8 → lv_has ls 5 [(4, .int (nI i)), (3, .int (acF (toP V NN LN SC q) 0 i)), (0, .ref (h)), (1, .int (nI q)), (2, .int (0))] → W p l e { frames := 3, cells := 0, slots := 0, locals := 70 } s m args below meth c H [] 0 0 Q (F0 m 5 ls []) := by
    intro k1
    induction k1 with
    | zero => intro i ls hFu; exact absurd hFu (Nat.not_lt_zero _)
    | succ k1 ih1 =>
      intro i ls hFu hLe hl
      refine lv_iload hx hb dX3_torn_5 (lv_at hl 0 rfl) ?_
      refine lv_bipush (v := nI (8)) hx hb dX3_torn_7 (by decide +kernel) ?_
      refine br_ge (a := i) (b := 8) (tgt := 41) hx hb (by omega) (by omega) dX3_torn_9 (by decide) (fun c9 => ?_) (fun c9 => ?_)
      · have e_i : i = 8 := by omega
        rw [e_i] at hl
        refine lv_iload_n hx hb dX3_torn_41 rfl (lv_at hl 4 rfl) ?_
        refine lv_if_eq (tgt := 49) hx hb dX3_torn_42 (by decide) (fun c42 => ?_) (fun c42 => ?_)
        · refine lv_iload_n hx hb dX3_torn_49 rfl (lv_at hl 1 rfl) ?_
          exact hret _ _ dX3_torn_50
        · exact absurd rfl c42
      · refine lv_aload_n hx hb dX3_torn_12 rfl (lv_at hl 2 rfl) ?_
        refine lv_iload_n hx hb dX3_torn_13 rfl (lv_at hl 3 rfl) ?_
        refine lv_iload hx hb dX3_torn_14 (lv_at hl 0 rfl) ?_
        refine p_V (As := [.int (nI q), .int (nI i)]) (rest := []) S (c_X3_isTorn l g h X V th lc ec NN hlc hec hNN LN SC hEN q hq i (by omega)) (cwV 2 hts gX3_torn_X3_isTorn rfl rfl rfl (by decide +kernel) ⟨Nat.le_of_ble_eq_true rfl, Nat.le_of_ble_eq_true rfl⟩) hK (va_recv hK.1 hP (ci := 3) (q0 := 0) rfl rfl) (hP) rfl hl.1 rfl (Nat.le_of_ble_eq_true rfl) dX3_torn_16 ⟨Nat.le_of_ble_eq_true rfl, Nat.le_of_ble_eq_true rfl⟩ ?_
        refine br_neB (tgt := 25) hx hb dX3_torn_19 (by decide) (fun c19 => ?_) (fun c19 => ?_)
        · refine lv_iload_n hx hb dX3_torn_25 rfl (lv_at hl 4 rfl) ?_
          refine lv_if_eq (tgt := 32) hx hb dX3_torn_26 (by decide) (fun c26 => ?_) (fun c26 => ?_)
          · refine lv_iinc (v := acF (toP V NN LN SC q) 0 (i + 1)) (lv' := [(3, .int (acF (toP V NN LN SC q) 0 (i + 1))), (4, .int (nI i)), (0, .ref (h)), (1, .int (nI q)), (2, .int (0))]) hx hb dX3_torn_32 hl (k := 1) rfl (by rw [acF, if_pos c19]; rfl) (by decide) rfl (fun ls hl => ?_)
            refine lv_iinc (v := nI (i + 1)) (lv' := [(4, .int (nI (i + 1))), (3, .int (acF (toP V NN LN SC q) 0 (i + 1))), (0, .ref (h)), (1, .int (nI q)), (2, .int (0))]) hx hb dX3_torn_35 hl (k := 1) rfl (nI_1 _) (by decide) rfl (fun ls hl => ?_)
            refine lv_goto (tgt := 5) hx hb dX3_torn_38 (by decide) ?_
            exact ih1 (i + 1) _ (by omega) (by omega) (lv_sub hl [0, 1, 2, 3, 4] rfl)
          · exact absurd rfl c26
        · refine lv_goto (tgt := 35) hx hb dX3_torn_22 (by decide) ?_
          have hl : lv_has ls 5 [(4, .int (nI i)), (3, .int (acF (toP V NN LN SC q) 0 (i + 1))), (0, .ref (h)), (1, .int (nI q)), (2, .int (0))] := by rw [acF, if_neg (by rw [c19]; decide)]; exact hl
          refine lv_iinc (v := nI (i + 1)) (lv' := [(4, .int (nI (i + 1))), (3, .int (acF (toP V NN LN SC q) 0 (i + 1))), (0, .ref (h)), (1, .int (nI q)), (2, .int (0))]) hx hb dX3_torn_35 hl (k := 0) rfl (nI_1 _) (by decide) rfl (fun ls hl => ?_)
          refine lv_goto (tgt := 5) hx hb dX3_torn_38 (by decide) ?_
          exact ih1 (i + 1) _ (by omega) (by omega) (lv_sub hl [0, 1, 2, 3, 4] rfl)
  exact L5 (8 + 1) (0) _ (by omega) (by omega) (lv_sub hl [0, 1, 2, 3, 4] rfl)

set_option maxHeartbeats 4000000 in
set_option maxRecDepth 100000 in
/-- torn, 1 -/
theorem c_X3_torn1 (l : Launch) (g : gT) (h : Nat) (X : Nat → Nat) (V : Nat → Nat → Int32) (th : Int32) (lc ec : Nat) (NN : Nat → Nat) (hlc : lc ≤ 12) (hec : ec ≤ 24) (hNN : ∀ i, i < lc → V 0 i = nI (NN i) ∧ NN i ≤ 40) (LN SC : Nat → Nat) (hEN : ∀ q, q < ec → V 2 q = nI (LN q) ∧ LN q < lc ∧ V 4 q = nI (SC q) ∧ SC q ≤ 40) (q : Nat) (hq : q < ec) : pM g l yX3_torn wsX3_torn { frames := 3, cells := 0, slots := 0, locals := 70 } [.ref (h), .int (nI q), .int (1)] (fun H => va_P (gD g) vwCl (mdW g h X V th lc ec) H) (.int (fsF (toP V NN LN SC q) 8 0)) := by
  refine pu_ofI (cc := cX3_torn) (maxL := 5) (by decide) rfl (Nat.le_of_ble_eq_true rfl) ?_
  intro p e s m args below meth c H ls Q hx hb hml hts hown hK hP hl hret
  have hl : lv_has ls 5 [(0, .ref (h)), (1, .int (nI q)), (2, .int (1))] := hl
  have S : CallFix p m c cX3_torn 5 s args wsX3_torn RX3 := ⟨hx, hb, hml, hown, hts⟩
  have hLN := (hEN q hq).1
  have hLl := (hEN q hq).2.1
  have hSC := (hEN q hq).2.2.1
  have hSl := (hEN q hq).2.2.2
  have hVn := (hNN _ hLl).1
  have hn := (hNN _ hLl).2
  refine lv_iconst (v := 0) hx hb dX3_torn_0 (by decide +kernel) ?_
  refine lv_istore_n (lv' := [(3, .int (0)), (0, .ref (h)), (1, .int (nI q)), (2, .int (1))]) hx hb dX3_torn_1 rfl hl (by decide) rfl (fun ls hl => ?_)
  refine lv_iconst (v := nI (0)) hx hb dX3_torn_2 (by decide +kernel) ?_
  refine lv_istore (lv' := [(4, .int (nI (0))), (3, .int (0)), (0, .ref (h)), (1, .int (nI q)), (2, .int (1))]) hx hb dX3_torn_3 hl (by decide) rfl (fun ls hl => ?_)
  have L5 : ∀ (k1 i : Nat) (ls : Array Slot), 8 - i < k1 → i ≤ 8 → (fsF (toP V NN LN SC q) 8 0 = fsF (toP V NN LN SC q) (8 - i) i) → lv_has ls 5 [(4, .int (nI i)), (3, .int (0)), (0, .ref (h)), (1, .int (nI q)), (2, .int (1))] → W p l e { frames := 3, cells := 0, slots := 0, locals := 70 } s m args below meth c H [] 0 0 Q (F0 m 5 ls []) := by
    intro k1
    induction k1 with
    | zero => intro i ls hFu; exact absurd hFu (Nat.not_lt_zero _)
    | succ k1 ih1 =>
      intro i ls hFu hLe he hl
      refine lv_iload hx hb dX3_torn_5 (lv_at hl 0 rfl) ?_
      refine lv_bipush (v := nI (8)) hx hb dX3_torn_7 (by decide +kernel) ?_
      refine br_ge (a := i) (b := 8) (tgt := 41) hx hb (by omega) (by omega) dX3_torn_9 (by decide) (fun c9 => ?_) (fun c9 => ?_)
      · refine lv_iload_n hx hb dX3_torn_41 rfl (lv_at hl 4 rfl) ?_
        refine lv_if_eq (tgt := 49) hx hb dX3_torn_42 (by decide) (fun c42 => ?_) (fun c42 => ?_)
        · exact absurd c42 (by decide +kernel)
        · refine lv_iconst (v := (-1)) hx hb dX3_torn_45 (by decide +kernel) ?_
          refine lv_goto (tgt := 50) hx hb dX3_torn_46 (by decide) ?_
          refine lv_toI (z := fsF (toP V NN LN SC q) 8 0) (by rw [he, show 8 - i = 0 by omega]; rfl) ?_
          exact hret _ _ dX3_torn_50
      · refine lv_aload_n hx hb dX3_torn_12 rfl (lv_at hl 2 rfl) ?_
        refine lv_iload_n hx hb dX3_torn_13 rfl (lv_at hl 3 rfl) ?_
        refine lv_iload hx hb dX3_torn_14 (lv_at hl 0 rfl) ?_
        refine p_V (As := [.int (nI q), .int (nI i)]) (rest := []) S (c_X3_isTorn l g h X V th lc ec NN hlc hec hNN LN SC hEN q hq i (by omega)) (cwV 2 hts gX3_torn_X3_isTorn rfl rfl rfl (by decide +kernel) ⟨Nat.le_of_ble_eq_true rfl, Nat.le_of_ble_eq_true rfl⟩) hK (va_recv hK.1 hP (ci := 3) (q0 := 0) rfl rfl) (hP) rfl hl.1 rfl (Nat.le_of_ble_eq_true rfl) dX3_torn_16 ⟨Nat.le_of_ble_eq_true rfl, Nat.le_of_ble_eq_true rfl⟩ ?_
        refine br_neB (tgt := 25) hx hb dX3_torn_19 (by decide) (fun c19 => ?_) (fun c19 => ?_)
        · refine lv_iload_n hx hb dX3_torn_25 rfl (lv_at hl 4 rfl) ?_
          refine lv_if_eq (tgt := 32) hx hb dX3_torn_26 (by decide) (fun c26 => ?_) (fun c26 => ?_)
          · exact absurd c26 (by decide +kernel)
          · refine lv_iload hx hb dX3_torn_29 (lv_at hl 0 rfl) ?_
            refine lv_toI (z := fsF (toP V NN LN SC q) 8 0) ((he.trans (fsF_yes (by omega) c19)).symm) ?_
            exact hret _ _ dX3_torn_31
        · refine lv_goto (tgt := 35) hx hb dX3_torn_22 (by decide) ?_
          refine lv_iinc (v := nI (i + 1)) (lv' := [(4, .int (nI (i + 1))), (3, .int (0)), (0, .ref (h)), (1, .int (nI q)), (2, .int (1))]) hx hb dX3_torn_35 hl (k := 0) rfl (nI_1 _) (by decide) rfl (fun ls hl => ?_)
          refine lv_goto (tgt := 5) hx hb dX3_torn_38 (by decide) ?_
          exact ih1 (i + 1) _ (by omega) (by omega) (he.trans (fsF_no c9 c19)) (lv_sub hl [0, 1, 2, 3, 4] rfl)
  exact L5 (8 + 1) (0) _ (by omega) (by omega) (rfl) (lv_sub hl [0, 1, 2, 3, 4] rfl)

set_option maxHeartbeats 4000000 in
set_option maxRecDepth 100000 in
/-- changedAt -/
theorem c_X3_changedAt (l : Launch) (g : gT) (h : Nat) (X : Nat → Nat) (V : Nat → Nat → Int32) (th : Int32) (lc ec : Nat) (NN : Nat → Nat) (hlc : lc ≤ 12) (hec : ec ≤ 24) (hNN : ∀ i, i < lc → V 0 i = nI (NN i) ∧ NN i ≤ 40) (LN SC : Nat → Nat) (hEN : ∀ q, q < ec → V 2 q = nI (LN q) ∧ LN q < lc ∧ V 4 q = nI (SC q) ∧ SC q ≤ 40) (q : Nat) (hq : q < ec) : pM g l yX3_changedAt wsX3_changedAt { frames := 4, cells := 0, slots := 0, locals := 89 } [.ref (h), .int (nI q)] (fun H => va_P (gD g) vwCl (mdW g h X V th lc ec) H) (.int (chM (asP V NN LN q) (SC q) (NN (LN q)) (V 6 q - smF (rwV V (LN q)) (NN (LN q))) (V 7 q - wtF (rwV V (LN q)) (NN (LN q))) (rwV V (LN q)))) := by
  refine pu_ofI (cc := cX3_changedAt) (maxL := 6) (by decide) rfl (Nat.le_of_ble_eq_true rfl) ?_
  intro p e s m args below meth c H ls Q hx hb hml hts hown hK hP hl hret
  have hl : lv_has ls 6 [(0, .ref (h)), (1, .int (nI q))] := hl
  have S : CallFix p m c cX3_changedAt 6 s args wsX3_changedAt RX3 := ⟨hx, hb, hml, hown, hts⟩
  have hLN := (hEN q hq).1
  have hLl := (hEN q hq).2.1
  have hSC := (hEN q hq).2.2.1
  have hSl := (hEN q hq).2.2.2
  have hVn := (hNN _ hLl).1
  have hn := (hNN _ hLl).2
  have iX3 : ∀ w ∈ u_ws RX3 TX3 12, w ∈ wsX3_changedAt := by decide +kernel
  have f9 := hts (.fieldLink RX3 9 "LetterSealsModel" "many" "[I") (by decide +kernel)
  have f16 := hts (.fieldLink RX3 16 "LetterSealsModel" "of" "[I") (by decide +kernel)
  have f22 := hts (.fieldLink RX3 22 "LetterSealsModel" "had" "[I") (by decide +kernel)
  have f28 := hts (.fieldLink RX3 28 "LetterSealsModel" "added" "[I") (by decide +kernel)
  have f31 := hts (.fieldLink RX3 31 "LetterSealsModel" "weighed" "[I") (by decide +kernel)
  refine lv_aload_n hx hb dX3_changedAt_0 rfl (lv_at hl 0 rfl) ?_
  refine va_get (D := gD g) (ci := 3) (v := .ref (X 2)) (C := RX3) (T := TX3) (N := 12) hx hb hts iX3 hown hK.1 hP 0 rfl rfl 5 (by decide) f16 (fun _ h9 => h9) rfl dX3_changedAt_1 ?_
  refine lv_iload_n hx hb dX3_changedAt_4 rfl (lv_at hl 1 rfl) ?_
  refine ld_I (k := q) (n := 24) (f := V 2) hx hb hK.1 hP 3 rfl (by omega) (by omega) dX3_changedAt_5 ?_
  refine lv_toI (z := nI (LN q)) (hLN) ?_
  refine lv_istore_n (lv' := [(2, .int (nI (LN q))), (0, .ref (h)), (1, .int (nI q))]) hx hb dX3_changedAt_6 rfl hl (by decide) rfl (fun ls hl => ?_)
  refine lv_aload_n hx hb dX3_changedAt_7 rfl (lv_at hl 1 rfl) ?_
  refine va_get (D := gD g) (ci := 3) (v := .ref (X 6)) (C := RX3) (T := TX3) (N := 12) hx hb hts iX3 hown hK.1 hP 0 rfl rfl 9 (by decide) f28 (fun _ h9 => h9) rfl dX3_changedAt_8 ?_
  refine lv_iload_n hx hb dX3_changedAt_11 rfl (lv_at hl 2 rfl) ?_
  refine ld_I (k := q) (n := 24) (f := V 6) hx hb hK.1 hP 7 rfl (by omega) (by omega) dX3_changedAt_12 ?_
  refine lv_aload_n hx hb dX3_changedAt_13 rfl (lv_at hl 1 rfl) ?_
  refine lv_iload_n hx hb dX3_changedAt_14 rfl (lv_at hl 0 rfl) ?_
  refine lv_iconst (v := 0) hx hb dX3_changedAt_15 (by decide +kernel) ?_
  refine p_V (As := [.int (nI (LN q)), .int (0)]) (rest := [.int ((V 6) (q))]) S (c_X3_sum0 l g h X V th lc ec NN hlc hec hNN (LN q) hLl) (cwV 2 hts gX3_changedAt_X3_sum rfl rfl rfl (by decide +kernel) ⟨Nat.le_of_ble_eq_true rfl, Nat.le_of_ble_eq_true rfl⟩) hK (va_recv hK.1 hP (ci := 3) (q0 := 0) rfl rfl) (hP) rfl hl.1 rfl (Nat.le_of_ble_eq_true rfl) dX3_changedAt_16 ⟨Nat.le_of_ble_eq_true rfl, Nat.le_of_ble_eq_true rfl⟩ ?_
  refine lv_isub hx hb dX3_changedAt_19 ?_
  refine lv_toI (z := V 6 q - smF (rwV V (LN q)) (NN (LN q))) (rfl) ?_
  refine lv_istore_n (lv' := [(3, .int (V 6 q - smF (rwV V (LN q)) (NN (LN q)))), (2, .int (nI (LN q))), (0, .ref (h)), (1, .int (nI q))]) hx hb dX3_changedAt_20 rfl hl (by decide) rfl (fun ls hl => ?_)
  refine lv_aload_n hx hb dX3_changedAt_21 rfl (lv_at hl 2 rfl) ?_
  refine va_get (D := gD g) (ci := 3) (v := .ref (X 7)) (C := RX3) (T := TX3) (N := 12) hx hb hts iX3 hown hK.1 hP 0 rfl rfl 10 (by decide) f31 (fun _ h9 => h9) rfl dX3_changedAt_22 ?_
  refine lv_iload_n hx hb dX3_changedAt_25 rfl (lv_at hl 3 rfl) ?_
  refine ld_I (k := q) (n := 24) (f := V 7) hx hb hK.1 hP 8 rfl (by omega) (by omega) dX3_changedAt_26 ?_
  refine lv_aload_n hx hb dX3_changedAt_27 rfl (lv_at hl 2 rfl) ?_
  refine lv_iload_n hx hb dX3_changedAt_28 rfl (lv_at hl 1 rfl) ?_
  refine lv_iconst (v := 1) hx hb dX3_changedAt_29 (by decide +kernel) ?_
  refine p_V (As := [.int (nI (LN q)), .int (1)]) (rest := [.int ((V 7) (q))]) S (c_X3_sum1 l g h X V th lc ec NN hlc hec hNN (LN q) hLl) (cwV 2 hts gX3_changedAt_X3_sum rfl rfl rfl (by decide +kernel) ⟨Nat.le_of_ble_eq_true rfl, Nat.le_of_ble_eq_true rfl⟩) hK (va_recv hK.1 hP (ci := 3) (q0 := 0) rfl rfl) (hP) rfl hl.1 rfl (Nat.le_of_ble_eq_true rfl) dX3_changedAt_30 ⟨Nat.le_of_ble_eq_true rfl, Nat.le_of_ble_eq_true rfl⟩ ?_
  refine lv_isub hx hb dX3_changedAt_33 ?_
  refine lv_toI (z := V 7 q - wtF (rwV V (LN q)) (NN (LN q))) (rfl) ?_
  refine lv_istore (lv' := [(4, .int (V 7 q - wtF (rwV V (LN q)) (NN (LN q)))), (3, .int (V 6 q - smF (rwV V (LN q)) (NN (LN q)))), (2, .int (nI (LN q))), (0, .ref (h)), (1, .int (nI q))]) hx hb dX3_changedAt_34 hl (by decide) rfl (fun ls hl => ?_)
  refine lv_aload_n hx hb dX3_changedAt_36 rfl (lv_at hl 3 rfl) ?_
  refine lv_iload_n hx hb dX3_changedAt_37 rfl (lv_at hl 4 rfl) ?_
  refine p_V (As := [.int (nI q)]) (rest := []) S (c_X3_isAsWritten l g h X V th lc ec NN hlc hec hNN LN SC hEN q hq) (cwV 1 hts gX3_changedAt_X3_isAsWritten rfl rfl rfl (by decide +kernel) ⟨Nat.le_of_ble_eq_true rfl, Nat.le_of_ble_eq_true rfl⟩) hK (va_recv hK.1 hP (ci := 3) (q0 := 0) rfl rfl) (hP) rfl hl.1 rfl (Nat.le_of_ble_eq_true rfl) dX3_changedAt_38 ⟨Nat.le_of_ble_eq_true rfl, Nat.le_of_ble_eq_true rfl⟩ ?_
  refine br_neB (tgt := 70) hx hb dX3_changedAt_41 (by decide) (fun c41 => ?_) (fun c41 => ?_)
  · refine lv_iconst (v := (-1)) hx hb dX3_changedAt_70 (by decide +kernel) ?_
    refine lv_toI (z := chM (asP V NN LN q) (SC q) (NN (LN q)) (V 6 q - smF (rwV V (LN q)) (NN (LN q))) (V 7 q - wtF (rwV V (LN q)) (NN (LN q))) (rwV V (LN q))) ((chM_a (by first | exact Or.inl c41 | exact Or.inr (Or.inl c56) | exact Or.inr (Or.inr (Or.inl c60)) | exact Or.inr (Or.inr (Or.inr c67)))).symm) ?_
    exact hret _ _ dX3_changedAt_71
  · refine lv_aload_n hx hb dX3_changedAt_44 rfl (lv_at hl 3 rfl) ?_
    refine va_get (D := gD g) (ci := 3) (v := .ref (X 4)) (C := RX3) (T := TX3) (N := 12) hx hb hts iX3 hown hK.1 hP 0 rfl rfl 7 (by decide) f22 (fun _ h9 => h9) rfl dX3_changedAt_45 ?_
    refine lv_iload_n hx hb dX3_changedAt_48 rfl (lv_at hl 4 rfl) ?_
    refine ld_I (k := q) (n := 24) (f := V 4) hx hb hK.1 hP 5 rfl (by omega) (by omega) dX3_changedAt_49 ?_
    refine lv_toI (z := nI (SC q)) (hSC) ?_
    refine lv_aload_n hx hb dX3_changedAt_50 rfl (lv_at hl 3 rfl) ?_
    refine va_get (D := gD g) (ci := 3) (v := .ref (X 0)) (C := RX3) (T := TX3) (N := 12) hx hb hts iX3 hown hK.1 hP 0 rfl rfl 2 (by decide) f9 (fun _ h9 => h9) rfl dX3_changedAt_51 ?_
    refine lv_iload_n hx hb dX3_changedAt_54 rfl (lv_at hl 2 rfl) ?_
    refine ld_I (k := LN q) (n := 12) (f := V 0) hx hb hK.1 hP 1 rfl (by omega) (by omega) dX3_changedAt_55 ?_
    refine lv_toI (z := nI (NN (LN q))) (hVn) ?_
    refine br_ne (a := SC q) (b := NN (LN q)) (tgt := 70) hx hb (by omega) (by omega) dX3_changedAt_56 (by decide) (fun c56 => ?_) (fun c56 => ?_)
    · refine lv_iconst (v := (-1)) hx hb dX3_changedAt_70 (by decide +kernel) ?_
      refine lv_toI (z := chM (asP V NN LN q) (SC q) (NN (LN q)) (V 6 q - smF (rwV V (LN q)) (NN (LN q))) (V 7 q - wtF (rwV V (LN q)) (NN (LN q))) (rwV V (LN q))) ((chM_a (by first | exact Or.inl c41 | exact Or.inr (Or.inl c56) | exact Or.inr (Or.inr (Or.inl c60)) | exact Or.inr (Or.inr (Or.inr c67)))).symm) ?_
      exact hret _ _ dX3_changedAt_71
    · refine lv_iload_n hx hb dX3_changedAt_59 rfl (lv_at hl 1 rfl) ?_
      refine lv_if_eq (tgt := 70) hx hb dX3_changedAt_60 (by decide) (fun c60 => ?_) (fun c60 => ?_)
      · refine lv_iconst (v := (-1)) hx hb dX3_changedAt_70 (by decide +kernel) ?_
        refine lv_toI (z := chM (asP V NN LN q) (SC q) (NN (LN q)) (V 6 q - smF (rwV V (LN q)) (NN (LN q))) (V 7 q - wtF (rwV V (LN q)) (NN (LN q))) (rwV V (LN q))) ((chM_a (by first | exact Or.inl c41 | exact Or.inr (Or.inl c56) | exact Or.inr (Or.inr (Or.inl c60)) | exact Or.inr (Or.inr (Or.inr c67)))).symm) ?_
        exact hret _ _ dX3_changedAt_71
      · refine lv_iload hx hb dX3_changedAt_63 (lv_at hl 0 rfl) ?_
        refine lv_iload_n hx hb dX3_changedAt_65 rfl (lv_at hl 1 rfl) ?_
        refine lv_irem hx hb dX3_changedAt_66 (c60) ?_
        refine lv_toI (z := rm (V 7 q - wtF (rwV V (LN q)) (NN (LN q))) (V 6 q - smF (rwV V (LN q)) (NN (LN q)))) (rfl) ?_
        refine lv_if_eq (tgt := 72) hx hb dX3_changedAt_67 (by decide) (fun c67 => ?_) (fun c67 => ?_)
        · refine lv_iload hx hb dX3_changedAt_72 (lv_at hl 0 rfl) ?_
          refine lv_iload_n hx hb dX3_changedAt_74 rfl (lv_at hl 1 rfl) ?_
          refine lv_idiv hx hb dX3_changedAt_75 (c60) ?_
          refine lv_iconst (v := 1) hx hb dX3_changedAt_76 (by decide +kernel) ?_
          refine lv_isub hx hb dX3_changedAt_77 ?_
          refine lv_toI (z := (V 7 q - wtF (rwV V (LN q)) (NN (LN q))) / (V 6 q - smF (rwV V (LN q)) (NN (LN q))) - 1) (rfl) ?_
          refine lv_istore (lv' := [(5, .int ((V 7 q - wtF (rwV V (LN q)) (NN (LN q))) / (V 6 q - smF (rwV V (LN q)) (NN (LN q))) - 1)), (4, .int (V 7 q - wtF (rwV V (LN q)) (NN (LN q)))), (3, .int (V 6 q - smF (rwV V (LN q)) (NN (LN q)))), (2, .int (nI (LN q))), (0, .ref (h)), (1, .int (nI q))]) hx hb dX3_changedAt_78 hl (by decide) rfl (fun ls hl => ?_)
          refine lv_aload_n hx hb dX3_changedAt_80 rfl (lv_at hl 4 rfl) ?_
          refine lv_iload_n hx hb dX3_changedAt_81 rfl (lv_at hl 3 rfl) ?_
          refine lv_iload hx hb dX3_changedAt_82 (lv_at hl 0 rfl) ?_
          refine p_V (As := [.int (nI (LN q)), .int ((V 7 q - wtF (rwV V (LN q)) (NN (LN q))) / (V 6 q - smF (rwV V (LN q)) (NN (LN q))) - 1)]) (rest := []) S (c_X3_isPlace l g h X V th lc ec NN hlc hec hNN (LN q) hLl ((V 7 q - wtF (rwV V (LN q)) (NN (LN q))) / (V 6 q - smF (rwV V (LN q)) (NN (LN q))) - 1)) (cwV 2 hts gX3_changedAt_X3_isPlace rfl rfl rfl (by decide +kernel) ⟨Nat.le_of_ble_eq_true rfl, Nat.le_of_ble_eq_true rfl⟩) hK (va_recv hK.1 hP (ci := 3) (q0 := 0) rfl rfl) (hP) rfl hl.1 rfl (Nat.le_of_ble_eq_true rfl) dX3_changedAt_84 ⟨Nat.le_of_ble_eq_true rfl, Nat.le_of_ble_eq_true rfl⟩ ?_
          refine br_eqB (tgt := 113) hx hb dX3_changedAt_87 (by decide) (fun c87 => ?_) (fun c87 => ?_)
          · refine lv_iconst (v := (-1)) hx hb dX3_changedAt_113 (by decide +kernel) ?_
            refine lv_toI (z := chM (asP V NN LN q) (SC q) (NN (LN q)) (V 6 q - smF (rwV V (LN q)) (NN (LN q))) (V 7 q - wtF (rwV V (LN q)) (NN (LN q))) (rwV V (LN q))) (by first | exact (chM_b c41 c56 c60 c67 c87).symm | exact (chM_c c41 c56 c60 c67 ej hj hn c105).symm) ?_
            exact hret _ _ dX3_changedAt_114
          · obtain ⟨j, hj, ej⟩ := inB_of c87 (by omega)
            refine lv_aload_n hx hb dX3_changedAt_90 rfl (lv_at hl 4 rfl) ?_
            refine lv_iload_n hx hb dX3_changedAt_91 rfl (lv_at hl 3 rfl) ?_
            refine lv_iload hx hb dX3_changedAt_92 (lv_at hl 0 rfl) ?_
            refine lv_toI (z := nI j) (ej) ?_
            refine p_V (As := [.int (nI (LN q)), .int (nI j)]) (rest := []) S (c_X3_at l g h X V th lc ec ((LN q)) (j) (by omega) (by omega)) (cwV 2 hts gX3_changedAt_X3_at rfl rfl rfl (by decide +kernel) ⟨Nat.le_of_ble_eq_true rfl, Nat.le_of_ble_eq_true rfl⟩) hK (va_recv hK.1 hP (ci := 3) (q0 := 0) rfl rfl) (hP) rfl hl.1 rfl (Nat.le_of_ble_eq_true rfl) dX3_changedAt_94 ⟨Nat.le_of_ble_eq_true rfl, Nat.le_of_ble_eq_true rfl⟩ ?_
            refine lv_iload_n hx hb dX3_changedAt_97 rfl (lv_at hl 2 rfl) ?_
            refine lv_iadd hx hb dX3_changedAt_98 ?_
            refine lv_iconst (v := 0) hx hb dX3_changedAt_99 (by decide +kernel) ?_
            refine lv_bipush (v := 30) hx hb dX3_changedAt_100 (by decide +kernel) ?_
            refine p_S (As := [.int ((rwV V ((LN q)) (j)) + (V 6 q - smF (rwV V (LN q)) (NN (LN q)))), .int (0), .int (30)]) (rest := []) S (c_X3_isFrom l g ((rwV V ((LN q)) (j)) + (V 6 q - smF (rwV V (LN q)) (NN (LN q)))) 0 30) (cwS 3 hts gX3_changedAt_X3_isFrom rfl rfl rfl (by decide +kernel) ⟨Nat.le_of_ble_eq_true rfl, Nat.le_of_ble_eq_true rfl⟩) hK (trivial) rfl hl.1 rfl (Nat.le_of_ble_eq_true rfl) dX3_changedAt_102 ⟨Nat.le_of_ble_eq_true rfl, Nat.le_of_ble_eq_true rfl⟩ ?_
            refine br_eqB (tgt := 113) hx hb dX3_changedAt_105 (by decide) (fun c105 => ?_) (fun c105 => ?_)
            · refine lv_iconst (v := (-1)) hx hb dX3_changedAt_113 (by decide +kernel) ?_
              refine lv_toI (z := chM (asP V NN LN q) (SC q) (NN (LN q)) (V 6 q - smF (rwV V (LN q)) (NN (LN q))) (V 7 q - wtF (rwV V (LN q)) (NN (LN q))) (rwV V (LN q))) (by first | exact (chM_b c41 c56 c60 c67 c87).symm | exact (chM_c c41 c56 c60 c67 ej hj hn c105).symm) ?_
              exact hret _ _ dX3_changedAt_114
            · refine lv_iload hx hb dX3_changedAt_108 (lv_at hl 0 rfl) ?_
              refine lv_goto (tgt := 114) hx hb dX3_changedAt_110 (by decide) ?_
              refine lv_toI (z := chM (asP V NN LN q) (SC q) (NN (LN q)) (V 6 q - smF (rwV V (LN q)) (NN (LN q))) (V 7 q - wtF (rwV V (LN q)) (NN (LN q))) (rwV V (LN q))) ((chM_d c41 c56 c60 c67 hj hn ej c105).symm) ?_
              exact hret _ _ dX3_changedAt_114
        · refine lv_iconst (v := (-1)) hx hb dX3_changedAt_70 (by decide +kernel) ?_
          refine lv_toI (z := chM (asP V NN LN q) (SC q) (NN (LN q)) (V 6 q - smF (rwV V (LN q)) (NN (LN q))) (V 7 q - wtF (rwV V (LN q)) (NN (LN q))) (rwV V (LN q))) ((chM_a (by first | exact Or.inl c41 | exact Or.inr (Or.inl c56) | exact Or.inr (Or.inr (Or.inl c60)) | exact Or.inr (Or.inr (Or.inr c67)))).symm) ?_
          exact hret _ _ dX3_changedAt_71

set_option maxHeartbeats 4000000 in
set_option maxRecDepth 100000 in
/-- unnoticedIn -/
theorem c_X3_unnoticedIn (l : Launch) (g : gT) (h : Nat) (X : Nat → Nat) (V : Nat → Nat → Int32) (th : Int32) (lc ec : Nat) (NN : Nat → Nat) (hlc : lc ≤ 12) (hec : ec ≤ 24) (hNN : ∀ i, i < lc → V 0 i = nI (NN i) ∧ NN i ≤ 40) (k : Nat) (hk : k < lc) : pM g l yX3_unnoticedIn wsX3_unnoticedIn { frames := 1, cells := 0, slots := 0, locals := 22 } [.ref (h), .int (nI k)] (fun H => va_P (gD g) vwCl (mdW g h X V th lc ec) H) (.int (unF (rwV V k) (NN k))) := by
  refine pu_ofI (cc := cX3_unnoticedIn) (maxL := 5) (by decide) rfl (Nat.le_of_ble_eq_true rfl) ?_
  intro p e s m args below meth c H ls Q hx hb hml hts hown hK hP hl hret
  have hl : lv_has ls 5 [(0, .ref (h)), (1, .int (nI k))] := hl
  have S : CallFix p m c cX3_unnoticedIn 5 s args wsX3_unnoticedIn RX3 := ⟨hx, hb, hml, hown, hts⟩
  have hVn := (hNN k hk).1
  have hn := (hNN k hk).2
  have iX3 : ∀ w ∈ u_ws RX3 TX3 12, w ∈ wsX3_unnoticedIn := by decide +kernel
  have f9 := hts (.fieldLink RX3 9 "LetterSealsModel" "many" "[I") (by decide +kernel)
  refine lv_iconst (v := 0) hx hb dX3_unnoticedIn_0 (by decide +kernel) ?_
  refine lv_istore_n (lv' := [(2, .int (0)), (0, .ref (h)), (1, .int (nI k))]) hx hb dX3_unnoticedIn_1 rfl hl (by decide) rfl (fun ls hl => ?_)
  refine lv_iconst (v := nI (0)) hx hb dX3_unnoticedIn_2 (by decide +kernel) ?_
  refine lv_istore_n (lv' := [(3, .int (nI (0))), (2, .int (0)), (0, .ref (h)), (1, .int (nI k))]) hx hb dX3_unnoticedIn_3 rfl hl (by decide) rfl (fun ls hl => ?_)
  have L4 : ∀ (k1 i : Nat) (ls : Array Slot), NN k - i < k1 → i ≤ NN k → lv_has ls 5 [(3, .int (nI i)), (2, .int (unF (rwV V k) i)), (0, .ref (h)), (1, .int (nI k))] → W p l e { frames := 1, cells := 0, slots := 0, locals := 22 } s m args below meth c H [] 0 0 Q (F0 m 4 ls []) := by
    intro k1
    induction k1 with
    | zero => intro i ls hFu; exact absurd hFu (Nat.not_lt_zero _)
    | succ k1 ih1 =>
      intro i ls hFu hLe hl
      refine lv_iload_n hx hb dX3_unnoticedIn_4 rfl (lv_at hl 0 rfl) ?_
      refine lv_aload_n hx hb dX3_unnoticedIn_5 rfl (lv_at hl 2 rfl) ?_
      refine va_get (D := gD g) (ci := 3) (v := .ref (X 0)) (C := RX3) (T := TX3) (N := 12) hx hb hts iX3 hown hK.1 hP 0 rfl rfl 2 (by decide) f9 (fun _ h9 => h9) rfl dX3_unnoticedIn_6 ?_
      refine lv_iload_n hx hb dX3_unnoticedIn_9 rfl (lv_at hl 3 rfl) ?_
      refine ld_I (k := k) (n := 12) (f := V 0) hx hb hK.1 hP 1 rfl (by omega) (by omega) dX3_unnoticedIn_10 ?_
      refine lv_toI (z := nI (NN k)) (hVn) ?_
      refine br_ge (a := i) (b := NN k) (tgt := 58) hx hb (by omega) (by omega) dX3_unnoticedIn_11 (by decide) (fun c11 => ?_) (fun c11 => ?_)
      · have e_i : i = NN k := by omega
        rw [e_i] at hl
        refine lv_iload_n hx hb dX3_unnoticedIn_58 rfl (lv_at hl 1 rfl) ?_
        exact hret _ _ dX3_unnoticedIn_59
      · refine lv_bipush (v := 27) hx hb dX3_unnoticedIn_14 (by decide +kernel) ?_
        refine lv_aload_n hx hb dX3_unnoticedIn_16 rfl (lv_at hl 2 rfl) ?_
        refine lv_iload_n hx hb dX3_unnoticedIn_17 rfl (lv_at hl 3 rfl) ?_
        refine lv_iload_n hx hb dX3_unnoticedIn_18 rfl (lv_at hl 0 rfl) ?_
        refine p_V (As := [.int (nI k), .int (nI i)]) (rest := [.int (27)]) S (c_X3_at l g h X V th lc ec (k) (i) (by omega) (by omega)) (cwV 2 hts gX3_unnoticedIn_X3_at rfl rfl rfl (by decide +kernel) ⟨Nat.le_of_ble_eq_true rfl, Nat.le_of_ble_eq_true rfl⟩) hK (va_recv hK.1 hP (ci := 3) (q0 := 0) rfl rfl) (hP) rfl hl.1 rfl (Nat.le_of_ble_eq_true rfl) dX3_unnoticedIn_19 ⟨Nat.le_of_ble_eq_true rfl, Nat.le_of_ble_eq_true rfl⟩ ?_
        refine lv_isub hx hb dX3_unnoticedIn_22 ?_
        refine lv_istore (lv' := [(4, .int ((27) - (rwV V k (i)))), (3, .int (nI i)), (2, .int (unF (rwV V k) i)), (0, .ref (h)), (1, .int (nI k))]) hx hb dX3_unnoticedIn_23 hl (by decide) rfl (fun ls hl => ?_)
        refine lv_iload_n hx hb dX3_unnoticedIn_25 rfl (lv_at hl 2 rfl) ?_
        refine lv_iload hx hb dX3_unnoticedIn_26 (lv_at hl 0 rfl) ?_
        refine lv_if_eq (tgt := 49) hx hb dX3_unnoticedIn_28 (by decide) (fun c28 => ?_) (fun c28 => ?_)
        · refine lv_iconst (v := 0) hx hb dX3_unnoticedIn_49 (by decide +kernel) ?_
          refine lv_iadd hx hb dX3_unnoticedIn_50 ?_
          refine lv_toI (z := unF (rwV V k) (i + 1)) (by rw [unF, if_neg (unP_no (by first | exact Or.inl (s27.mp c28) | exact Or.inr c42)), Int32.add_zero]) ?_
          refine lv_istore_n (lv' := [(2, .int (unF (rwV V k) (i + 1))), (4, .int ((27) - (rwV V k (i)))), (3, .int (nI i)), (0, .ref (h)), (1, .int (nI k))]) hx hb dX3_unnoticedIn_51 rfl hl (by decide) rfl (fun ls hl => ?_)
          refine lv_iinc (v := nI (i + 1)) (lv' := [(3, .int (nI (i + 1))), (2, .int (unF (rwV V k) (i + 1))), (4, .int ((27) - (rwV V k (i)))), (0, .ref (h)), (1, .int (nI k))]) hx hb dX3_unnoticedIn_52 hl (k := 2) rfl (nI_1 _) (by decide) rfl (fun ls hl => ?_)
          refine lv_goto (tgt := 4) hx hb dX3_unnoticedIn_55 (by decide) ?_
          exact ih1 (i + 1) _ (by omega) (by omega) (lv_sub hl [0, 1, 3, 4] rfl)
        · refine lv_iload_n hx hb dX3_unnoticedIn_31 rfl (lv_at hl 1 rfl) ?_
          refine lv_iconst (v := 5) hx hb dX3_unnoticedIn_32 (by decide +kernel) ?_
          refine lv_irem hx hb dX3_unnoticedIn_33 (by decide +kernel) ?_
          refine lv_iconst (v := 1) hx hb dX3_unnoticedIn_34 (by decide +kernel) ?_
          refine lv_iadd hx hb dX3_unnoticedIn_35 ?_
          refine lv_iload hx hb dX3_unnoticedIn_36 (lv_at hl 0 rfl) ?_
          refine lv_imul hx hb dX3_unnoticedIn_38 ?_
          refine lv_toI (z := unC (rwV V k) i) (rfl) ?_
          refine lv_bipush (v := 32) hx hb dX3_unnoticedIn_39 (by decide +kernel) ?_
          refine lv_irem hx hb dX3_unnoticedIn_41 (by decide +kernel) ?_
          refine lv_toI (z := rm (unC (rwV V k) i) 32) (rfl) ?_
          refine lv_if_ne (tgt := 49) hx hb dX3_unnoticedIn_42 (by decide) (fun c42 => ?_) (fun c42 => ?_)
          · refine lv_iconst (v := 0) hx hb dX3_unnoticedIn_49 (by decide +kernel) ?_
            refine lv_iadd hx hb dX3_unnoticedIn_50 ?_
            refine lv_toI (z := unF (rwV V k) (i + 1)) (by rw [unF, if_neg (unP_no (by first | exact Or.inl (s27.mp c28) | exact Or.inr c42)), Int32.add_zero]) ?_
            refine lv_istore_n (lv' := [(2, .int (unF (rwV V k) (i + 1))), (4, .int ((27) - (rwV V k (i)))), (3, .int (nI i)), (0, .ref (h)), (1, .int (nI k))]) hx hb dX3_unnoticedIn_51 rfl hl (by decide) rfl (fun ls hl => ?_)
            refine lv_iinc (v := nI (i + 1)) (lv' := [(3, .int (nI (i + 1))), (2, .int (unF (rwV V k) (i + 1))), (4, .int ((27) - (rwV V k (i)))), (0, .ref (h)), (1, .int (nI k))]) hx hb dX3_unnoticedIn_52 hl (k := 2) rfl (nI_1 _) (by decide) rfl (fun ls hl => ?_)
            refine lv_goto (tgt := 4) hx hb dX3_unnoticedIn_55 (by decide) ?_
            exact ih1 (i + 1) _ (by omega) (by omega) (lv_sub hl [0, 1, 3, 4] rfl)
          · refine lv_iconst (v := 1) hx hb dX3_unnoticedIn_45 (by decide +kernel) ?_
            refine lv_goto (tgt := 50) hx hb dX3_unnoticedIn_46 (by decide) ?_
            refine lv_iadd hx hb dX3_unnoticedIn_50 ?_
            refine lv_toI (z := unF (rwV V k) (i + 1)) (by rw [unF, if_pos (unP_yes (fun z => c28 (s27.mpr z)) c42)]) ?_
            refine lv_istore_n (lv' := [(2, .int (unF (rwV V k) (i + 1))), (4, .int ((27) - (rwV V k (i)))), (3, .int (nI i)), (0, .ref (h)), (1, .int (nI k))]) hx hb dX3_unnoticedIn_51 rfl hl (by decide) rfl (fun ls hl => ?_)
            refine lv_iinc (v := nI (i + 1)) (lv' := [(3, .int (nI (i + 1))), (2, .int (unF (rwV V k) (i + 1))), (4, .int ((27) - (rwV V k (i)))), (0, .ref (h)), (1, .int (nI k))]) hx hb dX3_unnoticedIn_52 hl (k := 2) rfl (nI_1 _) (by decide) rfl (fun ls hl => ?_)
            refine lv_goto (tgt := 4) hx hb dX3_unnoticedIn_55 (by decide) ?_
            exact ih1 (i + 1) _ (by omega) (by omega) (lv_sub hl [0, 1, 3, 4] rfl)
  exact L4 (NN k + 1) (0) _ (by omega) (by omega) (lv_sub hl [0, 1, 2, 3] rfl)

set_option maxHeartbeats 4000000 in
set_option maxRecDepth 100000 in
/-- worst -/
theorem c_X3_worst (l : Launch) (g : gT) (h : Nat) (X : Nat → Nat) (V : Nat → Nat → Int32) (th : Int32) (lc ec : Nat) (NN : Nat → Nat) (hlc : lc ≤ 12) (hec : ec ≤ 24) (hNN : ∀ i, i < lc → V 0 i = nI (NN i) ∧ NN i ≤ 40) (k : Nat) (hk : k < lc) : pM g l yX3_worst wsX3_worst { frames := 3, cells := 0, slots := 0, locals := 68 } [.ref (h), .int (nI k)] (fun H => va_P (gD g) vwCl (mdW g h X V th lc ec) H) (.int ((wmS (rwV V k) (fun i => dgF (wdV V k (nI i) 30) (NN k)) (dgF (rwV V k) (NN k)) (NN k)).1)) := by
  refine pu_ofI (cc := cX3_worst) (maxL := 6) (by decide) rfl (Nat.le_of_ble_eq_true rfl) ?_
  intro p e s m args below meth c H ls Q hx hb hml hts hown hK hP hl hret
  have hl : lv_has ls 6 [(0, .ref (h)), (1, .int (nI k))] := hl
  have S : CallFix p m c cX3_worst 6 s args wsX3_worst RX3 := ⟨hx, hb, hml, hown, hts⟩
  have hVn := (hNN k hk).1
  have hn := (hNN k hk).2
  have iX3 : ∀ w ∈ u_ws RX3 TX3 12, w ∈ wsX3_worst := by decide +kernel
  have f9 := hts (.fieldLink RX3 9 "LetterSealsModel" "many" "[I") (by decide +kernel)
  refine lv_iconst (v := (-1)) hx hb dX3_worst_0 (by decide +kernel) ?_
  refine lv_istore_n (lv' := [(2, .int ((-1))), (0, .ref (h)), (1, .int (nI k))]) hx hb dX3_worst_1 rfl hl (by decide) rfl (fun ls hl => ?_)
  refine lv_iconst (v := (-1)) hx hb dX3_worst_2 (by decide +kernel) ?_
  refine lv_istore_n (lv' := [(3, .int ((-1))), (2, .int ((-1))), (0, .ref (h)), (1, .int (nI k))]) hx hb dX3_worst_3 rfl hl (by decide) rfl (fun ls hl => ?_)
  refine lv_iconst (v := nI (0)) hx hb dX3_worst_4 (by decide +kernel) ?_
  refine lv_istore (lv' := [(4, .int (nI (0))), (3, .int ((-1))), (2, .int ((-1))), (0, .ref (h)), (1, .int (nI k))]) hx hb dX3_worst_5 hl (by decide) rfl (fun ls hl => ?_)
  have L7 : ∀ (k1 i : Nat) (ls : Array Slot), NN k - i < k1 → i ≤ NN k → lv_has ls 6 [(4, .int (nI i)), (2, .int ((wmS (rwV V k) (fun i => dgF (wdV V k (nI i) 30) (NN k)) (dgF (rwV V k) (NN k)) i).1)), (3, .int ((wmS (rwV V k) (fun i => dgF (wdV V k (nI i) 30) (NN k)) (dgF (rwV V k) (NN k)) i).2)), (0, .ref (h)), (1, .int (nI k))] → W p l e { frames := 3, cells := 0, slots := 0, locals := 68 } s m args below meth c H [] 0 0 Q (F0 m 7 ls []) := by
    intro k1
    induction k1 with
    | zero => intro i ls hFu; exact absurd hFu (Nat.not_lt_zero _)
    | succ k1 ih1 =>
      intro i ls hFu hLe hl
      refine lv_iload hx hb dX3_worst_7 (lv_at hl 0 rfl) ?_
      refine lv_aload_n hx hb dX3_worst_9 rfl (lv_at hl 3 rfl) ?_
      refine va_get (D := gD g) (ci := 3) (v := .ref (X 0)) (C := RX3) (T := TX3) (N := 12) hx hb hts iX3 hown hK.1 hP 0 rfl rfl 2 (by decide) f9 (fun _ h9 => h9) rfl dX3_worst_10 ?_
      refine lv_iload_n hx hb dX3_worst_13 rfl (lv_at hl 4 rfl) ?_
      refine ld_I (k := k) (n := 12) (f := V 0) hx hb hK.1 hP 1 rfl (by omega) (by omega) dX3_worst_14 ?_
      refine lv_toI (z := nI (NN k)) (hVn) ?_
      refine br_ge (a := i) (b := NN k) (tgt := 74) hx hb (by omega) (by omega) dX3_worst_15 (by decide) (fun c15 => ?_) (fun c15 => ?_)
      · have e_i : i = NN k := by omega
        rw [e_i] at hl
        refine lv_iload_n hx hb dX3_worst_74 rfl (lv_at hl 1 rfl) ?_
        exact hret _ _ dX3_worst_75
      · refine lv_aload_n hx hb dX3_worst_18 rfl (lv_at hl 3 rfl) ?_
        refine lv_iload_n hx hb dX3_worst_19 rfl (lv_at hl 4 rfl) ?_
        refine lv_iload hx hb dX3_worst_20 (lv_at hl 0 rfl) ?_
        refine p_V (As := [.int (nI k), .int (nI i)]) (rest := []) S (c_X3_at l g h X V th lc ec (k) (i) (by omega) (by omega)) (cwV 2 hts gX3_worst_X3_at rfl rfl rfl (by decide +kernel) ⟨Nat.le_of_ble_eq_true rfl, Nat.le_of_ble_eq_true rfl⟩) hK (va_recv hK.1 hP (ci := 3) (q0 := 0) rfl rfl) (hP) rfl hl.1 rfl (Nat.le_of_ble_eq_true rfl) dX3_worst_22 ⟨Nat.le_of_ble_eq_true rfl, Nat.le_of_ble_eq_true rfl⟩ ?_
        refine lv_bipush (v := 30) hx hb dX3_worst_25 (by decide +kernel) ?_
        refine lv_icmp_ne (tgt := 33) hx hb dX3_worst_27 (by decide) (fun c27 => ?_) (fun c27 => ?_)
        · refine lv_aload_n hx hb dX3_worst_33 rfl (lv_at hl 3 rfl) ?_
          refine lv_iload_n hx hb dX3_worst_34 rfl (lv_at hl 4 rfl) ?_
          refine lv_iload hx hb dX3_worst_35 (lv_at hl 0 rfl) ?_
          refine lv_bipush (v := 30) hx hb dX3_worst_37 (by decide +kernel) ?_
          refine p_V (As := [.int (nI k), .int (nI i), .int (30)]) (rest := []) S (c_X3_digestWith l g h X V th lc ec NN hlc hec hNN k hk (nI i) 30) (cwV 3 hts gX3_worst_X3_digestWith rfl rfl rfl (by decide +kernel) ⟨Nat.le_of_ble_eq_true rfl, Nat.le_of_ble_eq_true rfl⟩) hK (va_recv hK.1 hP (ci := 3) (q0 := 0) rfl rfl) (hP) rfl hl.1 rfl (Nat.le_of_ble_eq_true rfl) dX3_worst_39 ⟨Nat.le_of_ble_eq_true rfl, Nat.le_of_ble_eq_true rfl⟩ ?_
          refine lv_aload_n hx hb dX3_worst_42 rfl (lv_at hl 3 rfl) ?_
          refine lv_iload_n hx hb dX3_worst_43 rfl (lv_at hl 4 rfl) ?_
          refine p_V (As := [.int (nI k)]) (rest := [.int (dgF (wdV V k (nI i) 30) (NN k))]) S (c_X3_digestNow l g h X V th lc ec NN hlc hec hNN k hk) (cwV 1 hts gX3_worst_X3_digestNow rfl rfl rfl (by decide +kernel) ⟨Nat.le_of_ble_eq_true rfl, Nat.le_of_ble_eq_true rfl⟩) hK (va_recv hK.1 hP (ci := 3) (q0 := 0) rfl rfl) (hP) rfl hl.1 rfl (Nat.le_of_ble_eq_true rfl) dX3_worst_44 ⟨Nat.le_of_ble_eq_true rfl, Nat.le_of_ble_eq_true rfl⟩ ?_
          refine lv_isub hx hb dX3_worst_47 ?_
          refine va_mabs (rest := []) hx hb (hml.trans hl.1.symm) hown (hts (.methodLink RX3 152 Lib.Math.abs.name) (by decide +kernel)) (hts (.static Lib.Math.abs.name) (by decide +kernel)) (hts (.initialized "java/lang/Math") (by decide +kernel)) (hts (.code Lib.Math.abs.name Lib.Math.abs.code 1 (some .int)) (by decide +kernel)) (Nat.le_of_ble_eq_true rfl) (Nat.le_of_ble_eq_true rfl) (Nat.le_of_ble_eq_true rfl) (Nat.le_of_ble_eq_true rfl) dX3_worst_48 ?_
          refine lv_toI (z := ab ((dgF (wdV V k (nI i) 30) (NN k)) - (dgF (rwV V k) (NN k)))) rfl ?_
          refine lv_istore (lv' := [(5, .int (ab ((dgF (wdV V k (nI i) 30) (NN k)) - (dgF (rwV V k) (NN k))))), (4, .int (nI i)), (2, .int ((wmS (rwV V k) (fun i => dgF (wdV V k (nI i) 30) (NN k)) (dgF (rwV V k) (NN k)) i).1)), (3, .int ((wmS (rwV V k) (fun i => dgF (wdV V k (nI i) 30) (NN k)) (dgF (rwV V k) (NN k)) i).2)), (0, .ref (h)), (1, .int (nI k))]) hx hb dX3_worst_51 hl (by decide) rfl (fun ls hl => ?_)
          refine lv_iload hx hb dX3_worst_53 (lv_at hl 0 rfl) ?_
          refine lv_iload_n hx hb dX3_worst_55 rfl (lv_at hl 3 rfl) ?_
          refine lv_icmp_gt (tgt := 62) hx hb dX3_worst_56 (by decide) (fun c56 => ?_) (fun c56 => ?_)
          · refine lv_iload hx hb dX3_worst_62 (lv_at hl 1 rfl) ?_
            refine lv_istore_n (lv' := [(2, .int (nI i)), (5, .int (ab ((dgF (wdV V k (nI i) 30) (NN k)) - (dgF (rwV V k) (NN k))))), (4, .int (nI i)), (3, .int ((wmS (rwV V k) (fun i => dgF (wdV V k (nI i) 30) (NN k)) (dgF (rwV V k) (NN k)) i).2)), (0, .ref (h)), (1, .int (nI k))]) hx hb dX3_worst_64 rfl hl (by decide) rfl (fun ls hl => ?_)
            refine lv_iload hx hb dX3_worst_65 (lv_at hl 1 rfl) ?_
            refine lv_istore_n (lv' := [(3, .int (ab ((dgF (wdV V k (nI i) 30) (NN k)) - (dgF (rwV V k) (NN k))))), (2, .int (nI i)), (5, .int (ab ((dgF (wdV V k (nI i) 30) (NN k)) - (dgF (rwV V k) (NN k))))), (4, .int (nI i)), (0, .ref (h)), (1, .int (nI k))]) hx hb dX3_worst_67 rfl hl (by decide) rfl (fun ls hl => ?_)
            have hl : lv_has ls 6 [(3, .int ((wmS (rwV V k) (fun i => dgF (wdV V k (nI i) 30) (NN k)) (dgF (rwV V k) (NN k)) (i + 1)).2)), (2, .int ((wmS (rwV V k) (fun i => dgF (wdV V k (nI i) 30) (NN k)) (dgF (rwV V k) (NN k)) (i + 1)).1)), (5, .int (ab ((dgF (wdV V k (nI i) 30) (NN k)) - (dgF (rwV V k) (NN k))))), (4, .int (nI i)), (0, .ref (h)), (1, .int (nI k))] := by rw [show wmS (rwV V k) (fun i => dgF (wdV V k (nI i) 30) (NN k)) (dgF (rwV V k) (NN k)) (i + 1) = (nI i, ab ((dgF (wdV V k (nI i) 30) (NN k)) - (dgF (rwV V k) (NN k)))) by rw [wmS, if_neg c27, if_neg (Int32.not_le.mpr c56)]]; exact hl
            refine lv_iinc (v := nI (i + 1)) (lv' := [(4, .int (nI (i + 1))), (3, .int ((wmS (rwV V k) (fun i => dgF (wdV V k (nI i) 30) (NN k)) (dgF (rwV V k) (NN k)) (i + 1)).2)), (2, .int ((wmS (rwV V k) (fun i => dgF (wdV V k (nI i) 30) (NN k)) (dgF (rwV V k) (NN k)) (i + 1)).1)), (5, .int (ab ((dgF (wdV V k (nI i) 30) (NN k)) - (dgF (rwV V k) (NN k))))), (0, .ref (h)), (1, .int (nI k))]) hx hb dX3_worst_68 hl (k := 3) rfl (nI_1 _) (by decide) rfl (fun ls hl => ?_)
            refine lv_goto (tgt := 7) hx hb dX3_worst_71 (by decide) ?_
            exact ih1 (i + 1) _ (by omega) (by omega) (lv_sub hl [0, 2, 1, 4, 5] rfl)
          · refine lv_goto (tgt := 68) hx hb dX3_worst_59 (by decide) ?_
            have hl : lv_has ls 6 [(5, .int (ab ((dgF (wdV V k (nI i) 30) (NN k)) - (dgF (rwV V k) (NN k))))), (4, .int (nI i)), (2, .int ((wmS (rwV V k) (fun i => dgF (wdV V k (nI i) 30) (NN k)) (dgF (rwV V k) (NN k)) (i + 1)).1)), (3, .int ((wmS (rwV V k) (fun i => dgF (wdV V k (nI i) 30) (NN k)) (dgF (rwV V k) (NN k)) (i + 1)).2)), (0, .ref (h)), (1, .int (nI k))] := by rw [show wmS (rwV V k) (fun i => dgF (wdV V k (nI i) 30) (NN k)) (dgF (rwV V k) (NN k)) (i + 1) = wmS (rwV V k) (fun i => dgF (wdV V k (nI i) 30) (NN k)) (dgF (rwV V k) (NN k)) i by first | (rw [wmS, if_pos c27]; done) | (rw [wmS, if_neg c27, if_pos (Int32.not_lt.mp c56)]; done)]; exact hl
            refine lv_iinc (v := nI (i + 1)) (lv' := [(4, .int (nI (i + 1))), (5, .int (ab ((dgF (wdV V k (nI i) 30) (NN k)) - (dgF (rwV V k) (NN k))))), (2, .int ((wmS (rwV V k) (fun i => dgF (wdV V k (nI i) 30) (NN k)) (dgF (rwV V k) (NN k)) (i + 1)).1)), (3, .int ((wmS (rwV V k) (fun i => dgF (wdV V k (nI i) 30) (NN k)) (dgF (rwV V k) (NN k)) (i + 1)).2)), (0, .ref (h)), (1, .int (nI k))]) hx hb dX3_worst_68 hl (k := 1) rfl (nI_1 _) (by decide) rfl (fun ls hl => ?_)
            refine lv_goto (tgt := 7) hx hb dX3_worst_71 (by decide) ?_
            exact ih1 (i + 1) _ (by omega) (by omega) (lv_sub hl [0, 2, 3, 4, 5] rfl)
        · refine lv_goto (tgt := 68) hx hb dX3_worst_30 (by decide) ?_
          have hl : lv_has ls 6 [(4, .int (nI i)), (2, .int ((wmS (rwV V k) (fun i => dgF (wdV V k (nI i) 30) (NN k)) (dgF (rwV V k) (NN k)) (i + 1)).1)), (3, .int ((wmS (rwV V k) (fun i => dgF (wdV V k (nI i) 30) (NN k)) (dgF (rwV V k) (NN k)) (i + 1)).2)), (0, .ref (h)), (1, .int (nI k))] := by rw [show wmS (rwV V k) (fun i => dgF (wdV V k (nI i) 30) (NN k)) (dgF (rwV V k) (NN k)) (i + 1) = wmS (rwV V k) (fun i => dgF (wdV V k (nI i) 30) (NN k)) (dgF (rwV V k) (NN k)) i by first | (rw [wmS, if_pos c27]; done) | (rw [wmS, if_neg c27, if_pos (Int32.not_lt.mp c56)]; done)]; exact hl
          refine lv_iinc (v := nI (i + 1)) (lv' := [(4, .int (nI (i + 1))), (2, .int ((wmS (rwV V k) (fun i => dgF (wdV V k (nI i) 30) (NN k)) (dgF (rwV V k) (NN k)) (i + 1)).1)), (3, .int ((wmS (rwV V k) (fun i => dgF (wdV V k (nI i) 30) (NN k)) (dgF (rwV V k) (NN k)) (i + 1)).2)), (0, .ref (h)), (1, .int (nI k))]) hx hb dX3_worst_68 hl (k := 0) rfl (nI_1 _) (by decide) rfl (fun ls hl => ?_)
          refine lv_goto (tgt := 7) hx hb dX3_worst_71 (by decide) ?_
          exact ih1 (i + 1) _ (by omega) (by omega) (lv_sub hl [0, 1, 2, 3, 4] rfl)
  exact L7 (NN k + 1) (0) _ (by omega) (by omega) (lv_sub hl [0, 2, 1, 3, 4] rfl)
