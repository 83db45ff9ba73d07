set_option maxHeartbeats 4000000 in
set_option maxRecDepth 100000 in
/-- thrown -/
theorem c_X3_thrown (l : Launch) (g : gT) (h : Nat) (X : Nat → Nat) (V : Nat → Nat → Int32) (th : Int32) (lc ec : Nat) : pM g l yX3_thrown wsX3_thrown { frames := 0, cells := 0, slots := 0, locals := 0 } [.ref (h)] (fun H => va_P (gD g) vwCl (mdW g h X V th lc ec) H) (.int (th)) := by
  refine pu_ofI (cc := cX3_thrown) (maxL := 1) (by decide) rfl (Nat.le_of_ble_eq_true rfl) ?_
  intro p e s m args below meth c H ls Q hx hb hml hts hown hK hP hl hret
  have hl : lv_has ls 1 [(0, .ref (h))] := hl
  have S : CallFix p m c cX3_thrown 1 s args wsX3_thrown RX3 := ⟨hx, hb, hml, hown, hts⟩
  have iX3 : ∀ w ∈ u_ws RX3 TX3 12, w ∈ wsX3_thrown := by decide +kernel
  have f37 := hts (.fieldLink RX3 37 "LetterSealsModel" "thrown" "I") (by decide +kernel)
  refine lv_aload_n hx hb dX3_thrown_0 rfl (lv_at hl 0 rfl) ?_
  refine va_get (D := gD g) (ci := 3) (v := .int (th)) (C := RX3) (T := TX3) (N := 12) hx hb hts iX3 hown hK.1 hP 0 rfl rfl 0 (by decide) f37 (fun _ h9 => h9) rfl dX3_thrown_1 ?_
  exact hret _ _ dX3_thrown_4

set_option maxHeartbeats 4000000 in
set_option maxRecDepth 100000 in
/-- no -/
theorem c_X3_no (l : Launch) (g : gT) (h : Nat) (X : Nat → Nat) (V : Nat → Nat → Int32) (th : Int32) (lc ec : Nat) (x : Int32) : wM g l yX3_no wsX3_no { frames := 0, cells := 0, slots := 0, locals := 0 } [.ref (h), .int (x)] (mdW g h X V th lc ec) (some (.int (0))) (mdW g h X V x lc ec) := by
  refine wr_ofI (cc := cX3_no) (maxL := 2) (by decide) rfl (Nat.le_of_ble_eq_true rfl) ?_
  intro p e s m args below meth c H0 ls A Q hx hb hml hts hown hK hP hD hS hl hret
  have hl : lv_has ls 2 [(0, .ref (h)), (1, .int (x))] := hl
  have S : CallFix p m c cX3_no 2 s args wsX3_no RX3 := ⟨hx, hb, hml, hown, hts⟩
  have iX3 : ∀ w ∈ u_ws RX3 TX3 12, w ∈ wsX3_no := by decide +kernel
  have f37 := hts (.fieldLink RX3 37 "LetterSealsModel" "thrown" "I") (by decide +kernel)
  obtain ⟨H, eH⟩ : ∃ H : Heap, H = H0 := ⟨_, rfl⟩
  rw [← eH] at hP ⊢
  have hS : va_S A H0 H [] := by rw [eH]; exact hS
  have hP : va_P (gD g) vwCl [(h, .inr (3, [.int (th), .int (nI lc), .ref (X 0), .ref (X 1), .int (nI ec), .ref (X 2), .ref (X 3), .ref (X 4), .ref (X 5), .ref (X 6), .ref (X 7), .ref (X 8)])), (X 0, .inl (gI g, 12, .inl (V 0))), (X 1, .inl (gI g, 480, .inl (V 1))), (X 2, .inl (gI g, 24, .inl (V 2))), (X 3, .inl (gI g, 24, .inl (V 3))), (X 4, .inl (gI g, 24, .inl (V 4))), (X 5, .inl (gI g, 192, .inl (V 5))), (X 6, .inl (gI g, 24, .inl (V 6))), (X 7, .inl (gI g, 24, .inl (V 7))), (X 8, .inl (gI g, 24, .inl (V 8)))] H := hP
  have hD : va_D A [(h, .inr (3, [.int (th), .int (nI lc), .ref (X 0), .ref (X 1), .int (nI ec), .ref (X 2), .ref (X 3), .ref (X 4), .ref (X 5), .ref (X 6), .ref (X 7), .ref (X 8)])), (X 0, .inl (gI g, 12, .inl (V 0))), (X 1, .inl (gI g, 480, .inl (V 1))), (X 2, .inl (gI g, 24, .inl (V 2))), (X 3, .inl (gI g, 24, .inl (V 3))), (X 4, .inl (gI g, 24, .inl (V 4))), (X 5, .inl (gI g, 192, .inl (V 5))), (X 6, .inl (gI g, 24, .inl (V 6))), (X 7, .inl (gI g, 24, .inl (V 7))), (X 8, .inl (gI g, 24, .inl (V 8)))] := hD
  refine lv_aload_n hx hb dX3_no_0 rfl (lv_at hl 0 rfl) ?_
  refine lv_iload_n hx hb dX3_no_1 rfl (lv_at hl 1 rfl) ?_
  refine va_put (D := gD g) (ci := 3) (v := .int (x)) (ty := .int) (C := RX3) (T := TX3) (N := 12) hx hb hts iX3 tyX3 tyX3_ok nmX3 hown hK.1 hP hD hS 0 rfl rfl 0 (by decide) f37 (fun _ h9 => h9) rfl (by decide +kernel) rfl rfl (Nat.le_of_ble_eq_true rfl) dX3_no_2 (fun H locs hP hD hS => ?_)
  have hP : va_P (gD g) vwCl [(h, .inr (3, [.int (x), .int (nI lc), .ref (X 0), .ref (X 1), .int (nI ec), .ref (X 2), .ref (X 3), .ref (X 4), .ref (X 5), .ref (X 6), .ref (X 7), .ref (X 8)])), (X 0, .inl (gI g, 12, .inl (V 0))), (X 1, .inl (gI g, 480, .inl (V 1))), (X 2, .inl (gI g, 24, .inl (V 2))), (X 3, .inl (gI g, 24, .inl (V 3))), (X 4, .inl (gI g, 24, .inl (V 4))), (X 5, .inl (gI g, 192, .inl (V 5))), (X 6, .inl (gI g, 24, .inl (V 6))), (X 7, .inl (gI g, 24, .inl (V 7))), (X 8, .inl (gI g, 24, .inl (V 8)))] H := hP
  have hD : va_D A [(h, .inr (3, [.int (x), .int (nI lc), .ref (X 0), .ref (X 1), .int (nI ec), .ref (X 2), .ref (X 3), .ref (X 4), .ref (X 5), .ref (X 6), .ref (X 7), .ref (X 8)])), (X 0, .inl (gI g, 12, .inl (V 0))), (X 1, .inl (gI g, 480, .inl (V 1))), (X 2, .inl (gI g, 24, .inl (V 2))), (X 3, .inl (gI g, 24, .inl (V 3))), (X 4, .inl (gI g, 24, .inl (V 4))), (X 5, .inl (gI g, 192, .inl (V 5))), (X 6, .inl (gI g, 24, .inl (V 6))), (X 7, .inl (gI g, 24, .inl (V 7))), (X 8, .inl (gI g, 24, .inl (V 8)))] := hD
  refine lv_iconst (v := 0) hx hb dX3_no_5 (by decide +kernel) ?_
  exact hret _ _ _ _ hP hS dX3_no_6

set_option maxHeartbeats 4000000 in
set_option maxRecDepth 100000 in
/-- ok -/
theorem c_X3_ok (l : Launch) (g : gT) (h : Nat) (X : Nat → Nat) (V : Nat → Nat → Int32) (th : Int32) (lc ec : Nat) (x : Int32) : wM g l yX3_ok wsX3_ok { frames := 0, cells := 0, slots := 0, locals := 0 } [.ref (h), .int (x)] (mdW g h X V th lc ec) (some (.int (x))) (mdW g h X V 0 lc ec) := by
  refine wr_ofI (cc := cX3_ok) (maxL := 2) (by decide) rfl (Nat.le_of_ble_eq_true rfl) ?_
  intro p e s m args below meth c H0 ls A Q hx hb hml hts hown hK hP hD hS hl hret
  have hl : lv_has ls 2 [(0, .ref (h)), (1, .int (x))] := hl
  have S : CallFix p m c cX3_ok 2 s args wsX3_ok RX3 := ⟨hx, hb, hml, hown, hts⟩
  have iX3 : ∀ w ∈ u_ws RX3 TX3 12, w ∈ wsX3_ok := by decide +kernel
  have f37 := hts (.fieldLink RX3 37 "LetterSealsModel" "thrown" "I") (by decide +kernel)
  obtain ⟨H, eH⟩ : ∃ H : Heap, H = H0 := ⟨_, rfl⟩
  rw [← eH] at hP ⊢
  have hS : va_S A H0 H [] := by rw [eH]; exact hS
  have hP : va_P (gD g) vwCl [(h, .inr (3, [.int (th), .int (nI lc), .ref (X 0), .ref (X 1), .int (nI ec), .ref (X 2), .ref (X 3), .ref (X 4), .ref (X 5), .ref (X 6), .ref (X 7), .ref (X 8)])), (X 0, .inl (gI g, 12, .inl (V 0))), (X 1, .inl (gI g, 480, .inl (V 1))), (X 2, .inl (gI g, 24, .inl (V 2))), (X 3, .inl (gI g, 24, .inl (V 3))), (X 4, .inl (gI g, 24, .inl (V 4))), (X 5, .inl (gI g, 192, .inl (V 5))), (X 6, .inl (gI g, 24, .inl (V 6))), (X 7, .inl (gI g, 24, .inl (V 7))), (X 8, .inl (gI g, 24, .inl (V 8)))] H := hP
  have hD : va_D A [(h, .inr (3, [.int (th), .int (nI lc), .ref (X 0), .ref (X 1), .int (nI ec), .ref (X 2), .ref (X 3), .ref (X 4), .ref (X 5), .ref (X 6), .ref (X 7), .ref (X 8)])), (X 0, .inl (gI g, 12, .inl (V 0))), (X 1, .inl (gI g, 480, .inl (V 1))), (X 2, .inl (gI g, 24, .inl (V 2))), (X 3, .inl (gI g, 24, .inl (V 3))), (X 4, .inl (gI g, 24, .inl (V 4))), (X 5, .inl (gI g, 192, .inl (V 5))), (X 6, .inl (gI g, 24, .inl (V 6))), (X 7, .inl (gI g, 24, .inl (V 7))), (X 8, .inl (gI g, 24, .inl (V 8)))] := hD
  refine lv_aload_n hx hb dX3_ok_0 rfl (lv_at hl 0 rfl) ?_
  refine lv_iconst (v := 0) hx hb dX3_ok_1 (by decide +kernel) ?_
  refine va_put (D := gD g) (ci := 3) (v := .int (0)) (ty := .int) (C := RX3) (T := TX3) (N := 12) hx hb hts iX3 tyX3 tyX3_ok nmX3 hown hK.1 hP hD hS 0 rfl rfl 0 (by decide) f37 (fun _ h9 => h9) rfl (by decide +kernel) rfl rfl (Nat.le_of_ble_eq_true rfl) dX3_ok_2 (fun H locs hP hD hS => ?_)
  have hP : va_P (gD g) vwCl [(h, .inr (3, [.int (0), .int (nI lc), .ref (X 0), .ref (X 1), .int (nI ec), .ref (X 2), .ref (X 3), .ref (X 4), .ref (X 5), .ref (X 6), .ref (X 7), .ref (X 8)])), (X 0, .inl (gI g, 12, .inl (V 0))), (X 1, .inl (gI g, 480, .inl (V 1))), (X 2, .inl (gI g, 24, .inl (V 2))), (X 3, .inl (gI g, 24, .inl (V 3))), (X 4, .inl (gI g, 24, .inl (V 4))), (X 5, .inl (gI g, 192, .inl (V 5))), (X 6, .inl (gI g, 24, .inl (V 6))), (X 7, .inl (gI g, 24, .inl (V 7))), (X 8, .inl (gI g, 24, .inl (V 8)))] H := hP
  have hD : va_D A [(h, .inr (3, [.int (0), .int (nI lc), .ref (X 0), .ref (X 1), .int (nI ec), .ref (X 2), .ref (X 3), .ref (X 4), .ref (X 5), .ref (X 6), .ref (X 7), .ref (X 8)])), (X 0, .inl (gI g, 12, .inl (V 0))), (X 1, .inl (gI g, 480, .inl (V 1))), (X 2, .inl (gI g, 24, .inl (V 2))), (X 3, .inl (gI g, 24, .inl (V 3))), (X 4, .inl (gI g, 24, .inl (V 4))), (X 5, .inl (gI g, 192, .inl (V 5))), (X 6, .inl (gI g, 24, .inl (V 6))), (X 7, .inl (gI g, 24, .inl (V 7))), (X 8, .inl (gI g, 24, .inl (V 8)))] := hD
  refine lv_iload_n hx hb dX3_ok_5 rfl (lv_at hl 1 rfl) ?_
  exact hret _ _ _ _ hP hS dX3_ok_6

set_option maxHeartbeats 4000000 in
set_option maxRecDepth 100000 in
/-- isPlace, no such letter -/
theorem c_X3_isPlace0 (l : Launch) (g : gT) (h : Nat) (X : Nat → Nat) (V : Nat → Nat → Int32) (th : Int32) (lc ec : Nat) (x y : Int32) (hlc : lc ≤ 12) (hec : ec ≤ 24) (hxb : inB x lc = false) : pM g l yX3_isPlace wsX3_isPlace { frames := 2, cells := 0, slots := 0, locals := 43 } [.ref (h), .int (x), .int (y)] (fun H => va_P (gD g) vwCl (mdW g h X V th lc ec) H) (.int (bI false)) := by
  refine pu_ofZ (cc := cX3_isPlace) (maxL := 3) (bI_n _) (by decide) rfl (Nat.le_of_ble_eq_true rfl) ?_
  intro p e s m args below meth c H ls Q hx hb hml hts hown hK hP hl hret
  have hl : lv_has ls 3 [(0, .ref (h)), (1, .int (x)), (2, .int (y))] := hl
  have S : CallFix p m c cX3_isPlace 3 s args wsX3_isPlace RX3 := ⟨hx, hb, hml, hown, hts⟩
  refine lv_aload_n hx hb dX3_isPlace_0 rfl (lv_at hl 0 rfl) ?_
  refine lv_iload_n hx hb dX3_isPlace_1 rfl (lv_at hl 1 rfl) ?_
  refine p_V (As := [.int (x)]) (rest := []) S (c_X3_isLetter l g h X V th lc ec x hlc hec) (cwV 1 hts gX3_isPlace_X3_isLetter rfl rfl rfl (by decide +kernel) ⟨Nat.le_of_ble_eq_true rfl, Nat.le_of_ble_eq_true rfl⟩) hK (va_recv hK.1 hP (ci := 3) (q0 := 0) rfl rfl) (hP) rfl hl.1 rfl (Nat.le_of_ble_eq_true rfl) dX3_isPlace_2 ⟨Nat.le_of_ble_eq_true rfl, Nat.le_of_ble_eq_true rfl⟩ ?_
  refine br_eqB (tgt := 28) hx hb dX3_isPlace_5 (by decide) (fun c5 => ?_) (fun c5 => ?_)
  · refine lv_iconst (v := bI false) hx hb dX3_isPlace_28 (by decide +kernel) ?_
    exact hret _ _ dX3_isPlace_29
  · exact absurd c5 (by rw [hxb]; decide)

set_option maxHeartbeats 4000000 in
set_option maxRecDepth 100000 in
/-- addLetter -/
theorem c_X3_addLetter (l : Launch) (g : gT) (h : Nat) (X : Nat → Nat) (V : Nat → Nat → Int32) (th : Int32) (lc ec : Nat) (hlc : lc ≤ 12) (hec : ec ≤ 24) (hl1 : lc < 12) : wM g l yX3_addLetter wsX3_addLetter { frames := 0, cells := 0, slots := 0, locals := 0 } [.ref (h)] (mdW g h X V th lc ec) (some (.int (nI lc))) (mdW g h X (vup V 0 (upd (V 0) lc 0)) 0 (lc + 1) ec) := by
  refine wr_ofI (cc := cX3_addLetter) (maxL := 1) (by decide) rfl (Nat.le_of_ble_eq_true rfl) ?_
  intro p e s m args below meth c H0 ls A Q hx hb hml hts hown hK hP hD hS hl hret
  have hl : lv_has ls 1 [(0, .ref (h))] := hl
  have S : CallFix p m c cX3_addLetter 1 s args wsX3_addLetter RX3 := ⟨hx, hb, hml, hown, hts⟩
  have iX3 : ∀ w ∈ u_ws RX3 TX3 12, w ∈ wsX3_addLetter := by decide +kernel
  have f9 := hts (.fieldLink RX3 9 "LetterSealsModel" "many" "[I") (by decide +kernel)
  have f37 := hts (.fieldLink RX3 37 "LetterSealsModel" "thrown" "I") (by decide +kernel)
  have f41 := hts (.fieldLink RX3 41 "LetterSealsModel" "letters" "I") (by decide +kernel)
  obtain ⟨H, eH⟩ : ∃ H : Heap, H = H0 := ⟨_, rfl⟩
  rw [← eH] at hP ⊢
  have hS : va_S A H0 H [] := by rw [eH]; exact hS
  have hP : va_P (gD g) vwCl [(h, .inr (3, [.int (th), .int (nI lc), .ref (X 0), .ref (X 1), .int (nI ec), .ref (X 2), .ref (X 3), .ref (X 4), .ref (X 5), .ref (X 6), .ref (X 7), .ref (X 8)])), (X 0, .inl (gI g, 12, .inl (V 0))), (X 1, .inl (gI g, 480, .inl (V 1))), (X 2, .inl (gI g, 24, .inl (V 2))), (X 3, .inl (gI g, 24, .inl (V 3))), (X 4, .inl (gI g, 24, .inl (V 4))), (X 5, .inl (gI g, 192, .inl (V 5))), (X 6, .inl (gI g, 24, .inl (V 6))), (X 7, .inl (gI g, 24, .inl (V 7))), (X 8, .inl (gI g, 24, .inl (V 8)))] H := hP
  have hD : va_D A [(h, .inr (3, [.int (th), .int (nI lc), .ref (X 0), .ref (X 1), .int (nI ec), .ref (X 2), .ref (X 3), .ref (X 4), .ref (X 5), .ref (X 6), .ref (X 7), .ref (X 8)])), (X 0, .inl (gI g, 12, .inl (V 0))), (X 1, .inl (gI g, 480, .inl (V 1))), (X 2, .inl (gI g, 24, .inl (V 2))), (X 3, .inl (gI g, 24, .inl (V 3))), (X 4, .inl (gI g, 24, .inl (V 4))), (X 5, .inl (gI g, 192, .inl (V 5))), (X 6, .inl (gI g, 24, .inl (V 6))), (X 7, .inl (gI g, 24, .inl (V 7))), (X 8, .inl (gI g, 24, .inl (V 8)))] := hD
  refine lv_aload_n hx hb dX3_addLetter_0 rfl (lv_at hl 0 rfl) ?_
  refine lv_iconst (v := 0) hx hb dX3_addLetter_1 (by decide +kernel) ?_
  refine va_put (D := gD g) (ci := 3) (v := .int (0)) (ty := .int) (C := RX3) (T := TX3) (N := 12) hx hb hts iX3 tyX3 tyX3_ok nmX3 hown hK.1 hP hD hS 0 rfl rfl 0 (by decide) f37 (fun _ h9 => h9) rfl (by decide +kernel) rfl rfl (Nat.le_of_ble_eq_true rfl) dX3_addLetter_2 (fun H locs hP hD hS => ?_)
  have hP : va_P (gD g) vwCl [(h, .inr (3, [.int (0), .int (nI lc), .ref (X 0), .ref (X 1), .int (nI ec), .ref (X 2), .ref (X 3), .ref (X 4), .ref (X 5), .ref (X 6), .ref (X 7), .ref (X 8)])), (X 0, .inl (gI g, 12, .inl (V 0))), (X 1, .inl (gI g, 480, .inl (V 1))), (X 2, .inl (gI g, 24, .inl (V 2))), (X 3, .inl (gI g, 24, .inl (V 3))), (X 4, .inl (gI g, 24, .inl (V 4))), (X 5, .inl (gI g, 192, .inl (V 5))), (X 6, .inl (gI g, 24, .inl (V 6))), (X 7, .inl (gI g, 24, .inl (V 7))), (X 8, .inl (gI g, 24, .inl (V 8)))] H := hP
  have hD : va_D A [(h, .inr (3, [.int (0), .int (nI lc), .ref (X 0), .ref (X 1), .int (nI ec), .ref (X 2), .ref (X 3), .ref (X 4), .ref (X 5), .ref (X 6), .ref (X 7), .ref (X 8)])), (X 0, .inl (gI g, 12, .inl (V 0))), (X 1, .inl (gI g, 480, .inl (V 1))), (X 2, .inl (gI g, 24, .inl (V 2))), (X 3, .inl (gI g, 24, .inl (V 3))), (X 4, .inl (gI g, 24, .inl (V 4))), (X 5, .inl (gI g, 192, .inl (V 5))), (X 6, .inl (gI g, 24, .inl (V 6))), (X 7, .inl (gI g, 24, .inl (V 7))), (X 8, .inl (gI g, 24, .inl (V 8)))] := hD
  refine lv_aload_n hx hb dX3_addLetter_5 rfl (lv_at hl 0 rfl) ?_
  refine va_get (D := gD g) (ci := 3) (v := .int (nI lc)) (C := RX3) (T := TX3) (N := 12) hx hb hts iX3 hown hK.1 hP 0 rfl rfl 1 (by decide) f41 (fun _ h9 => h9) rfl dX3_addLetter_6 ?_
  refine lv_bipush (v := nI (12)) hx hb dX3_addLetter_9 (by decide +kernel) ?_
  refine br_ne (a := lc) (b := 12) (tgt := 20) hx hb (by omega) (by omega) dX3_addLetter_11 (by decide) (fun c11 => ?_) (fun c11 => ?_)
  · refine lv_aload_n hx hb dX3_addLetter_20 rfl (lv_at hl 0 rfl) ?_
    refine va_get (D := gD g) (ci := 3) (v := .ref (X 0)) (C := RX3) (T := TX3) (N := 12) hx hb hts iX3 hown hK.1 hP 0 rfl rfl 2 (by decide) f9 (fun _ h9 => h9) rfl dX3_addLetter_21 ?_
    refine lv_aload_n hx hb dX3_addLetter_24 rfl (lv_at hl 0 rfl) ?_
    refine va_get (D := gD g) (ci := 3) (v := .int (nI lc)) (C := RX3) (T := TX3) (N := 12) hx hb hts iX3 hown hK.1 hP 0 rfl rfl 1 (by decide) f41 (fun _ h9 => h9) rfl dX3_addLetter_25 ?_
    refine lv_iconst (v := 0) hx hb dX3_addLetter_28 (by decide +kernel) ?_
    refine st_I (k := lc) (n := 12) (f := V 0) (x := 0) hx hb hK.1 hP hD hS 1 rfl (by omega) (by omega) dX3_addLetter_29 (fun H locs hP hD hS => ?_)
    have hP : va_P (gD g) vwCl [(h, .inr (3, [.int (0), .int (nI lc), .ref (X 0), .ref (X 1), .int (nI ec), .ref (X 2), .ref (X 3), .ref (X 4), .ref (X 5), .ref (X 6), .ref (X 7), .ref (X 8)])), (X 0, .inl (gI g, 12, .inl (upd (V 0) (lc) (0)))), (X 1, .inl (gI g, 480, .inl (V 1))), (X 2, .inl (gI g, 24, .inl (V 2))), (X 3, .inl (gI g, 24, .inl (V 3))), (X 4, .inl (gI g, 24, .inl (V 4))), (X 5, .inl (gI g, 192, .inl (V 5))), (X 6, .inl (gI g, 24, .inl (V 6))), (X 7, .inl (gI g, 24, .inl (V 7))), (X 8, .inl (gI g, 24, .inl (V 8)))] H := hP
    have hD : va_D A [(h, .inr (3, [.int (0), .int (nI lc), .ref (X 0), .ref (X 1), .int (nI ec), .ref (X 2), .ref (X 3), .ref (X 4), .ref (X 5), .ref (X 6), .ref (X 7), .ref (X 8)])), (X 0, .inl (gI g, 12, .inl (upd (V 0) (lc) (0)))), (X 1, .inl (gI g, 480, .inl (V 1))), (X 2, .inl (gI g, 24, .inl (V 2))), (X 3, .inl (gI g, 24, .inl (V 3))), (X 4, .inl (gI g, 24, .inl (V 4))), (X 5, .inl (gI g, 192, .inl (V 5))), (X 6, .inl (gI g, 24, .inl (V 6))), (X 7, .inl (gI g, 24, .inl (V 7))), (X 8, .inl (gI g, 24, .inl (V 8)))] := hD
    refine lv_aload_n hx hb dX3_addLetter_30 rfl (lv_at hl 0 rfl) ?_
    refine lv_dup hx hb dX3_addLetter_31 rfl ?_
    refine va_get (D := gD g) (ci := 3) (v := .int (nI lc)) (C := RX3) (T := TX3) (N := 12) hx hb hts iX3 hown hK.1 hP 0 rfl rfl 1 (by decide) f41 (fun _ h9 => h9) rfl dX3_addLetter_32 ?_
    refine lv_iconst (v := nI (1)) hx hb dX3_addLetter_35 (by decide +kernel) ?_
    refine lv_iadd hx hb dX3_addLetter_36 ?_
    refine lv_toI (z := nI (lc + 1)) (nI_add _ _) ?_
    refine va_put (D := gD g) (ci := 3) (v := .int (nI (lc + 1))) (ty := .int) (C := RX3) (T := TX3) (N := 12) hx hb hts iX3 tyX3 tyX3_ok nmX3 hown hK.1 hP hD hS 0 rfl rfl 1 (by decide) f41 (fun _ h9 => h9) rfl (by decide +kernel) rfl rfl (Nat.le_of_ble_eq_true rfl) dX3_addLetter_37 (fun H locs hP hD hS => ?_)
    have hP : va_P (gD g) vwCl [(h, .inr (3, [.int (0), .int (nI (lc + 1)), .ref (X 0), .ref (X 1), .int (nI ec), .ref (X 2), .ref (X 3), .ref (X 4), .ref (X 5), .ref (X 6), .ref (X 7), .ref (X 8)])), (X 0, .inl (gI g, 12, .inl (upd (V 0) (lc) (0)))), (X 1, .inl (gI g, 480, .inl (V 1))), (X 2, .inl (gI g, 24, .inl (V 2))), (X 3, .inl (gI g, 24, .inl (V 3))), (X 4, .inl (gI g, 24, .inl (V 4))), (X 5, .inl (gI g, 192, .inl (V 5))), (X 6, .inl (gI g, 24, .inl (V 6))), (X 7, .inl (gI g, 24, .inl (V 7))), (X 8, .inl (gI g, 24, .inl (V 8)))] H := hP
    have hD : va_D A [(h, .inr (3, [.int (0), .int (nI (lc + 1)), .ref (X 0), .ref (X 1), .int (nI ec), .ref (X 2), .ref (X 3), .ref (X 4), .ref (X 5), .ref (X 6), .ref (X 7), .ref (X 8)])), (X 0, .inl (gI g, 12, .inl (upd (V 0) (lc) (0)))), (X 1, .inl (gI g, 480, .inl (V 1))), (X 2, .inl (gI g, 24, .inl (V 2))), (X 3, .inl (gI g, 24, .inl (V 3))), (X 4, .inl (gI g, 24, .inl (V 4))), (X 5, .inl (gI g, 192, .inl (V 5))), (X 6, .inl (gI g, 24, .inl (V 6))), (X 7, .inl (gI g, 24, .inl (V 7))), (X 8, .inl (gI g, 24, .inl (V 8)))] := hD
    refine lv_aload_n hx hb dX3_addLetter_40 rfl (lv_at hl 0 rfl) ?_
    refine va_get (D := gD g) (ci := 3) (v := .int (nI (lc + 1))) (C := RX3) (T := TX3) (N := 12) hx hb hts iX3 hown hK.1 hP 0 rfl rfl 1 (by decide) f41 (fun _ h9 => h9) rfl dX3_addLetter_41 ?_
    refine lv_iconst (v := nI (1)) hx hb dX3_addLetter_44 (by decide +kernel) ?_
    refine lv_isub hx hb dX3_addLetter_45 ?_
    refine lv_toI (z := nI (lc + 1 - 1)) (pk_sub (by omega)) ?_
    refine lv_toI (z := nI lc) (by rw [Nat.add_sub_cancel]) ?_
    exact hret _ _ _ _ hP hS dX3_addLetter_46
  · omega

set_option maxHeartbeats 4000000 in
set_option maxRecDepth 100000 in
/-- addLetter_1 -/
theorem c_X3_addLetter_1 (l : Launch) (g : gT) (h : Nat) (X : Nat → Nat) (V : Nat → Nat → Int32) (th : Int32) (lc ec : Nat) (hlc : lc ≤ 12) (hec : ec ≤ 24) (hl1 : lc = 12) : wM g l yX3_addLetter wsX3_addLetter { frames := 1, cells := 0, slots := 0, locals := 21 } [.ref (h)] (mdW g h X V th lc ec) (some (.int (0))) (mdW g h X V 1 lc ec) := by
  refine wr_ofI (cc := cX3_addLetter) (maxL := 1) (by decide) rfl (Nat.le_of_ble_eq_true rfl) ?_
  intro p e s m args below meth c H0 ls A Q hx hb hml hts hown hK hP hD hS hl hret
  have hl : lv_has ls 1 [(0, .ref (h))] := hl
  have S : CallFix p m c cX3_addLetter 1 s args wsX3_addLetter RX3 := ⟨hx, hb, hml, hown, hts⟩
  have iX3 : ∀ w ∈ u_ws RX3 TX3 12, w ∈ wsX3_addLetter := by decide +kernel
  have f37 := hts (.fieldLink RX3 37 "LetterSealsModel" "thrown" "I") (by decide +kernel)
  have f41 := hts (.fieldLink RX3 41 "LetterSealsModel" "letters" "I") (by decide +kernel)
  obtain ⟨H, eH⟩ : ∃ H : Heap, H = H0 := ⟨_, rfl⟩
  rw [← eH] at hP ⊢
  have hS : va_S A H0 H [] := by rw [eH]; exact hS
  have hP : va_P (gD g) vwCl [(h, .inr (3, [.int (th), .int (nI lc), .ref (X 0), .ref (X 1), .int (nI ec), .ref (X 2), .ref (X 3), .ref (X 4), .ref (X 5), .ref (X 6), .ref (X 7), .ref (X 8)])), (X 0, .inl (gI g, 12, .inl (V 0))), (X 1, .inl (gI g, 480, .inl (V 1))), (X 2, .inl (gI g, 24, .inl (V 2))), (X 3, .inl (gI g, 24, .inl (V 3))), (X 4, .inl (gI g, 24, .inl (V 4))), (X 5, .inl (gI g, 192, .inl (V 5))), (X 6, .inl (gI g, 24, .inl (V 6))), (X 7, .inl (gI g, 24, .inl (V 7))), (X 8, .inl (gI g, 24, .inl (V 8)))] H := hP
  have hD : va_D A [(h, .inr (3, [.int (th), .int (nI lc), .ref (X 0), .ref (X 1), .int (nI ec), .ref (X 2), .ref (X 3), .ref (X 4), .ref (X 5), .ref (X 6), .ref (X 7), .ref (X 8)])), (X 0, .inl (gI g, 12, .inl (V 0))), (X 1, .inl (gI g, 480, .inl (V 1))), (X 2, .inl (gI g, 24, .inl (V 2))), (X 3, .inl (gI g, 24, .inl (V 3))), (X 4, .inl (gI g, 24, .inl (V 4))), (X 5, .inl (gI g, 192, .inl (V 5))), (X 6, .inl (gI g, 24, .inl (V 6))), (X 7, .inl (gI g, 24, .inl (V 7))), (X 8, .inl (gI g, 24, .inl (V 8)))] := hD
  refine lv_aload_n hx hb dX3_addLetter_0 rfl (lv_at hl 0 rfl) ?_
  refine lv_iconst (v := 0) hx hb dX3_addLetter_1 (by decide +kernel) ?_
  refine va_put (D := gD g) (ci := 3) (v := .int (0)) (ty := .int) (C := RX3) (T := TX3) (N := 12) hx hb hts iX3 tyX3 tyX3_ok nmX3 hown hK.1 hP hD hS 0 rfl rfl 0 (by decide) f37 (fun _ h9 => h9) rfl (by decide +kernel) rfl rfl (Nat.le_of_ble_eq_true rfl) dX3_addLetter_2 (fun H locs hP hD hS => ?_)
  have hP : va_P (gD g) vwCl [(h, .inr (3, [.int (0), .int (nI lc), .ref (X 0), .ref (X 1), .int (nI ec), .ref (X 2), .ref (X 3), .ref (X 4), .ref (X 5), .ref (X 6), .ref (X 7), .ref (X 8)])), (X 0, .inl (gI g, 12, .inl (V 0))), (X 1, .inl (gI g, 480, .inl (V 1))), (X 2, .inl (gI g, 24, .inl (V 2))), (X 3, .inl (gI g, 24, .inl (V 3))), (X 4, .inl (gI g, 24, .inl (V 4))), (X 5, .inl (gI g, 192, .inl (V 5))), (X 6, .inl (gI g, 24, .inl (V 6))), (X 7, .inl (gI g, 24, .inl (V 7))), (X 8, .inl (gI g, 24, .inl (V 8)))] H := hP
  have hD : va_D A [(h, .inr (3, [.int (0), .int (nI lc), .ref (X 0), .ref (X 1), .int (nI ec), .ref (X 2), .ref (X 3), .ref (X 4), .ref (X 5), .ref (X 6), .ref (X 7), .ref (X 8)])), (X 0, .inl (gI g, 12, .inl (V 0))), (X 1, .inl (gI g, 480, .inl (V 1))), (X 2, .inl (gI g, 24, .inl (V 2))), (X 3, .inl (gI g, 24, .inl (V 3))), (X 4, .inl (gI g, 24, .inl (V 4))), (X 5, .inl (gI g, 192, .inl (V 5))), (X 6, .inl (gI g, 24, .inl (V 6))), (X 7, .inl (gI g, 24, .inl (V 7))), (X 8, .inl (gI g, 24, .inl (V 8)))] := hD
  refine lv_aload_n hx hb dX3_addLetter_5 rfl (lv_at hl 0 rfl) ?_
  refine va_get (D := gD g) (ci := 3) (v := .int (nI lc)) (C := RX3) (T := TX3) (N := 12) hx hb hts iX3 hown hK.1 hP 0 rfl rfl 1 (by decide) f41 (fun _ h9 => h9) rfl dX3_addLetter_6 ?_
  refine lv_bipush (v := nI (12)) hx hb dX3_addLetter_9 (by decide +kernel) ?_
  refine br_ne (a := lc) (b := 12) (tgt := 20) hx hb (by omega) (by omega) dX3_addLetter_11 (by decide) (fun c11 => ?_) (fun c11 => ?_)
  · omega
  · refine lv_aload_n hx hb dX3_addLetter_14 rfl (lv_at hl 0 rfl) ?_
    refine lv_iconst (v := 1) hx hb dX3_addLetter_15 (by decide +kernel) ?_
    refine w_V (As := [.int (1)]) (rest := []) S (c_X3_no l g h X V 0 lc ec (1)) (cwV 1 hts gX3_addLetter_X3_no rfl rfl rfl (by decide +kernel) ⟨Nat.le_of_ble_eq_true rfl, Nat.le_of_ble_eq_true rfl⟩) hK (va_recv hK.1 hP (ci := 3) (q0 := 0) rfl rfl) hP (hD.weaken (fun _ _ _ _ => trivial)) hS (wA_D hD [0, 1, 2, 3, 4, 5, 6, 7, 8, 9] rfl) rfl hl.1 rfl (Nat.le_of_ble_eq_true rfl) dX3_addLetter_16 ⟨Nat.le_of_ble_eq_true rfl, Nat.le_of_ble_eq_true rfl⟩ (fun H locs hP1 hz1 hk1 hS => ?_)
    have hP : va_P (gD g) vwCl [(h, .inr (3, [.int (1), .int (nI lc), .ref (X 0), .ref (X 1), .int (nI ec), .ref (X 2), .ref (X 3), .ref (X 4), .ref (X 5), .ref (X 6), .ref (X 7), .ref (X 8)])), (X 0, .inl (gI g, 12, .inl (V 0))), (X 1, .inl (gI g, 480, .inl (V 1))), (X 2, .inl (gI g, 24, .inl (V 2))), (X 3, .inl (gI g, 24, .inl (V 3))), (X 4, .inl (gI g, 24, .inl (V 4))), (X 5, .inl (gI g, 192, .inl (V 5))), (X 6, .inl (gI g, 24, .inl (V 6))), (X 7, .inl (gI g, 24, .inl (V 7))), (X 8, .inl (gI g, 24, .inl (V 8)))] H := hP1
    have hD : va_D A [(h, .inr (3, [.int (1), .int (nI lc), .ref (X 0), .ref (X 1), .int (nI ec), .ref (X 2), .ref (X 3), .ref (X 4), .ref (X 5), .ref (X 6), .ref (X 7), .ref (X 8)])), (X 0, .inl (gI g, 12, .inl (V 0))), (X 1, .inl (gI g, 480, .inl (V 1))), (X 2, .inl (gI g, 24, .inl (V 2))), (X 3, .inl (gI g, 24, .inl (V 3))), (X 4, .inl (gI g, 24, .inl (V 4))), (X 5, .inl (gI g, 192, .inl (V 5))), (X 6, .inl (gI g, 24, .inl (V 6))), (X 7, .inl (gI g, 24, .inl (V 7))), (X 8, .inl (gI g, 24, .inl (V 8)))] := D_same hD rfl
    exact hret _ _ _ _ hP hS dX3_addLetter_19

set_option maxHeartbeats 4000000 in
set_option maxRecDepth 100000 in
/-- write -/
theorem c_X3_write (l : Launch) (g : gT) (h : Nat) (X : Nat → Nat) (V : Nat → Nat → Int32) (th : Int32) (lc ec : Nat) (NN : Nat → Nat) (hlc : lc ≤ 12) (hec : ec ≤ 24) (hNN : ∀ i, i < lc → V 0 i = nI (NN i) ∧ NN i ≤ 40) (k : Nat) (hk : k < lc) (x : Int32) (hs : (decide (0 ≤ x) && decide (x ≤ 29)) = true) (hn1 : NN k < 40) : wM g l yX3_write wsX3_write { frames := 2, cells := 0, slots := 0, locals := 43 } [.ref (h), .int (nI k), .int (x)] (mdW g h X V th lc ec) (some (.int (nI (NN k + 1)))) (mdW g h X (vup (vup V 0 (upd (V 0) k (nI (NN k + 1)))) 1 (upd (V 1) (40 * k + NN k) x)) 0 lc ec) := by
  refine wr_ofI (cc := cX3_write) (maxL := 3) (by decide) rfl (Nat.le_of_ble_eq_true rfl) ?_
  intro p e s m args below meth c H0 ls A Q hx hb hml hts hown hK hP hD hS hl hret
  have hl : lv_has ls 3 [(0, .ref (h)), (1, .int (nI k)), (2, .int (x))] := hl
  have S : CallFix p m c cX3_write 3 s args wsX3_write RX3 := ⟨hx, hb, hml, hown, hts⟩
  have hgk : inB (nI k) lc = true := inB_nI hk (by omega)
  have hVn := (hNN k hk).1
  have hn := (hNN k hk).2
  have iX3 : ∀ w ∈ u_ws RX3 TX3 12, w ∈ wsX3_write := by decide +kernel
  have f9 := hts (.fieldLink RX3 9 "LetterSealsModel" "many" "[I") (by decide +kernel)
  have f13 := hts (.fieldLink RX3 13 "LetterSealsModel" "sign" "[I") (by decide +kernel)
  have f37 := hts (.fieldLink RX3 37 "LetterSealsModel" "thrown" "I") (by decide +kernel)
  obtain ⟨H, eH⟩ : ∃ H : Heap, H = H0 := ⟨_, rfl⟩
  rw [← eH] at hP ⊢
  have hS : va_S A H0 H [] := by rw [eH]; exact hS
  have hP : va_P (gD g) vwCl [(h, .inr (3, [.int (th), .int (nI lc), .ref (X 0), .ref (X 1), .int (nI ec), .ref (X 2), .ref (X 3), .ref (X 4), .ref (X 5), .ref (X 6), .ref (X 7), .ref (X 8)])), (X 0, .inl (gI g, 12, .inl (V 0))), (X 1, .inl (gI g, 480, .inl (V 1))), (X 2, .inl (gI g, 24, .inl (V 2))), (X 3, .inl (gI g, 24, .inl (V 3))), (X 4, .inl (gI g, 24, .inl (V 4))), (X 5, .inl (gI g, 192, .inl (V 5))), (X 6, .inl (gI g, 24, .inl (V 6))), (X 7, .inl (gI g, 24, .inl (V 7))), (X 8, .inl (gI g, 24, .inl (V 8)))] H := hP
  have hD : va_D A [(h, .inr (3, [.int (th), .int (nI lc), .ref (X 0), .ref (X 1), .int (nI ec), .ref (X 2), .ref (X 3), .ref (X 4), .ref (X 5), .ref (X 6), .ref (X 7), .ref (X 8)])), (X 0, .inl (gI g, 12, .inl (V 0))), (X 1, .inl (gI g, 480, .inl (V 1))), (X 2, .inl (gI g, 24, .inl (V 2))), (X 3, .inl (gI g, 24, .inl (V 3))), (X 4, .inl (gI g, 24, .inl (V 4))), (X 5, .inl (gI g, 192, .inl (V 5))), (X 6, .inl (gI g, 24, .inl (V 6))), (X 7, .inl (gI g, 24, .inl (V 7))), (X 8, .inl (gI g, 24, .inl (V 8)))] := hD
  refine lv_aload_n hx hb dX3_write_0 rfl (lv_at hl 0 rfl) ?_
  refine lv_iconst (v := 0) hx hb dX3_write_1 (by decide +kernel) ?_
  refine va_put (D := gD g) (ci := 3) (v := .int (0)) (ty := .int) (C := RX3) (T := TX3) (N := 12) hx hb hts iX3 tyX3 tyX3_ok nmX3 hown hK.1 hP hD hS 0 rfl rfl 0 (by decide) f37 (fun _ h9 => h9) rfl (by decide +kernel) rfl rfl (Nat.le_of_ble_eq_true rfl) dX3_write_2 (fun H locs hP hD hS => ?_)
  have hP : va_P (gD g) vwCl [(h, .inr (3, [.int (0), .int (nI lc), .ref (X 0), .ref (X 1), .int (nI ec), .ref (X 2), .ref (X 3), .ref (X 4), .ref (X 5), .ref (X 6), .ref (X 7), .ref (X 8)])), (X 0, .inl (gI g, 12, .inl (V 0))), (X 1, .inl (gI g, 480, .inl (V 1))), (X 2, .inl (gI g, 24, .inl (V 2))), (X 3, .inl (gI g, 24, .inl (V 3))), (X 4, .inl (gI g, 24, .inl (V 4))), (X 5, .inl (gI g, 192, .inl (V 5))), (X 6, .inl (gI g, 24, .inl (V 6))), (X 7, .inl (gI g, 24, .inl (V 7))), (X 8, .inl (gI g, 24, .inl (V 8)))] H := hP
  have hD : va_D A [(h, .inr (3, [.int (0), .int (nI lc), .ref (X 0), .ref (X 1), .int (nI ec), .ref (X 2), .ref (X 3), .ref (X 4), .ref (X 5), .ref (X 6), .ref (X 7), .ref (X 8)])), (X 0, .inl (gI g, 12, .inl (V 0))), (X 1, .inl (gI g, 480, .inl (V 1))), (X 2, .inl (gI g, 24, .inl (V 2))), (X 3, .inl (gI g, 24, .inl (V 3))), (X 4, .inl (gI g, 24, .inl (V 4))), (X 5, .inl (gI g, 192, .inl (V 5))), (X 6, .inl (gI g, 24, .inl (V 6))), (X 7, .inl (gI g, 24, .inl (V 7))), (X 8, .inl (gI g, 24, .inl (V 8)))] := hD
  refine lv_aload_n hx hb dX3_write_5 rfl (lv_at hl 0 rfl) ?_
  refine lv_iload_n hx hb dX3_write_6 rfl (lv_at hl 1 rfl) ?_
  refine p_V (As := [.int (nI k)]) (rest := []) S (c_X3_isLetter l g h X V 0 lc ec (nI k) hlc hec) (cwV 1 hts gX3_write_X3_isLetter rfl rfl rfl (by decide +kernel) ⟨Nat.le_of_ble_eq_true rfl, Nat.le_of_ble_eq_true rfl⟩) hK (va_recv hK.1 hP (ci := 3) (q0 := 0) rfl rfl) (hP) rfl hl.1 rfl (Nat.le_of_ble_eq_true rfl) dX3_write_7 ⟨Nat.le_of_ble_eq_true rfl, Nat.le_of_ble_eq_true rfl⟩ ?_
  refine br_neB (tgt := 19) hx hb dX3_write_10 (by decide) (fun c10 => ?_) (fun c10 => ?_)
  · refine lv_iload_n hx hb dX3_write_19 rfl (lv_at hl 2 rfl) ?_
    refine lv_iconst (v := 0) hx hb dX3_write_20 (by decide +kernel) ?_
    refine lv_bipush (v := 29) hx hb dX3_write_21 (by decide +kernel) ?_
    refine p_S (As := [.int (x), .int (0), .int (29)]) (rest := []) S (c_X3_isFrom l g (x) (0) (29)) (cwS 3 hts gX3_write_X3_isFrom rfl rfl rfl (by decide +kernel) ⟨Nat.le_of_ble_eq_true rfl, Nat.le_of_ble_eq_true rfl⟩) hK (trivial) rfl hl.1 rfl (Nat.le_of_ble_eq_true rfl) dX3_write_23 ⟨Nat.le_of_ble_eq_true rfl, Nat.le_of_ble_eq_true rfl⟩ ?_
    refine br_neB (tgt := 35) hx hb dX3_write_26 (by decide) (fun c26 => ?_) (fun c26 => ?_)
    · refine lv_aload_n hx hb dX3_write_35 rfl (lv_at hl 0 rfl) ?_
      refine va_get (D := gD g) (ci := 3) (v := .ref (X 0)) (C := RX3) (T := TX3) (N := 12) hx hb hts iX3 hown hK.1 hP 0 rfl rfl 2 (by decide) f9 (fun _ h9 => h9) rfl dX3_write_36 ?_
      refine lv_iload_n hx hb dX3_write_39 rfl (lv_at hl 1 rfl) ?_
      refine ld_I (k := k) (n := 12) (f := V 0) hx hb hK.1 hP 1 rfl (by omega) (by omega) dX3_write_40 ?_
      refine lv_toI (z := nI (NN k)) (hVn) ?_
      refine lv_bipush (v := nI (40)) hx hb dX3_write_41 (by decide +kernel) ?_
      refine br_ne (a := NN k) (b := 40) (tgt := 52) hx hb (by omega) (by omega) dX3_write_43 (by decide) (fun c43 => ?_) (fun c43 => ?_)
      · refine lv_aload_n hx hb dX3_write_52 rfl (lv_at hl 0 rfl) ?_
        refine va_get (D := gD g) (ci := 3) (v := .ref (X 1)) (C := RX3) (T := TX3) (N := 12) hx hb hts iX3 hown hK.1 hP 0 rfl rfl 3 (by decide) f13 (fun _ h9 => h9) rfl dX3_write_53 ?_
        refine lv_bipush (v := nI (40)) hx hb dX3_write_56 (by decide +kernel) ?_
        refine lv_iload_n hx hb dX3_write_58 rfl (lv_at hl 1 rfl) ?_
        refine lv_imul hx hb dX3_write_59 ?_
        refine lv_toI (z := nI (40 * k)) (pk_mul _ _) ?_
        refine lv_aload_n hx hb dX3_write_60 rfl (lv_at hl 0 rfl) ?_
        refine va_get (D := gD g) (ci := 3) (v := .ref (X 0)) (C := RX3) (T := TX3) (N := 12) hx hb hts iX3 hown hK.1 hP 0 rfl rfl 2 (by decide) f9 (fun _ h9 => h9) rfl dX3_write_61 ?_
        refine lv_iload_n hx hb dX3_write_64 rfl (lv_at hl 1 rfl) ?_
        refine ld_I (k := k) (n := 12) (f := V 0) hx hb hK.1 hP 1 rfl (by omega) (by omega) dX3_write_65 ?_
        refine lv_toI (z := nI (NN k)) (hVn) ?_
        refine lv_iadd hx hb dX3_write_66 ?_
        refine lv_toI (z := nI (40 * k + NN k)) (nI_add _ _) ?_
        refine lv_iload_n hx hb dX3_write_67 rfl (lv_at hl 2 rfl) ?_
        refine st_I (k := 40 * k + NN k) (n := 480) (f := V 1) (x := x) hx hb hK.1 hP hD hS 2 rfl (by omega) (by omega) dX3_write_68 (fun H locs hP hD hS => ?_)
        have hP : va_P (gD g) vwCl [(h, .inr (3, [.int (0), .int (nI lc), .ref (X 0), .ref (X 1), .int (nI ec), .ref (X 2), .ref (X 3), .ref (X 4), .ref (X 5), .ref (X 6), .ref (X 7), .ref (X 8)])), (X 0, .inl (gI g, 12, .inl (V 0))), (X 1, .inl (gI g, 480, .inl (upd (V 1) (40 * k + NN k) (x)))), (X 2, .inl (gI g, 24, .inl (V 2))), (X 3, .inl (gI g, 24, .inl (V 3))), (X 4, .inl (gI g, 24, .inl (V 4))), (X 5, .inl (gI g, 192, .inl (V 5))), (X 6, .inl (gI g, 24, .inl (V 6))), (X 7, .inl (gI g, 24, .inl (V 7))), (X 8, .inl (gI g, 24, .inl (V 8)))] H := hP
        have hD : va_D A [(h, .inr (3, [.int (0), .int (nI lc), .ref (X 0), .ref (X 1), .int (nI ec), .ref (X 2), .ref (X 3), .ref (X 4), .ref (X 5), .ref (X 6), .ref (X 7), .ref (X 8)])), (X 0, .inl (gI g, 12, .inl (V 0))), (X 1, .inl (gI g, 480, .inl (upd (V 1) (40 * k + NN k) (x)))), (X 2, .inl (gI g, 24, .inl (V 2))), (X 3, .inl (gI g, 24, .inl (V 3))), (X 4, .inl (gI g, 24, .inl (V 4))), (X 5, .inl (gI g, 192, .inl (V 5))), (X 6, .inl (gI g, 24, .inl (V 6))), (X 7, .inl (gI g, 24, .inl (V 7))), (X 8, .inl (gI g, 24, .inl (V 8)))] := hD
        refine lv_aload_n hx hb dX3_write_69 rfl (lv_at hl 0 rfl) ?_
        refine va_get (D := gD g) (ci := 3) (v := .ref (X 0)) (C := RX3) (T := TX3) (N := 12) hx hb hts iX3 hown hK.1 hP 0 rfl rfl 2 (by decide) f9 (fun _ h9 => h9) rfl dX3_write_70 ?_
        refine lv_iload_n hx hb dX3_write_73 rfl (lv_at hl 1 rfl) ?_
        refine lv_dup2_11 hx hb dX3_write_74 rfl rfl ?_
        refine ld_I (k := k) (n := 12) (f := V 0) hx hb hK.1 hP 1 rfl (by omega) (by omega) dX3_write_75 ?_
        refine lv_toI (z := nI (NN k)) (hVn) ?_
        refine lv_iconst (v := nI (1)) hx hb dX3_write_76 (by decide +kernel) ?_
        refine lv_iadd hx hb dX3_write_77 ?_
        refine lv_toI (z := nI (NN k + 1)) (nI_add _ _) ?_
        refine st_I (k := k) (n := 12) (f := V 0) (x := nI (NN k + 1)) hx hb hK.1 hP hD hS 1 rfl (by omega) (by omega) dX3_write_78 (fun H locs hP hD hS => ?_)
        have hP : va_P (gD g) vwCl [(h, .inr (3, [.int (0), .int (nI lc), .ref (X 0), .ref (X 1), .int (nI ec), .ref (X 2), .ref (X 3), .ref (X 4), .ref (X 5), .ref (X 6), .ref (X 7), .ref (X 8)])), (X 0, .inl (gI g, 12, .inl (upd (V 0) (k) (nI (NN k + 1))))), (X 1, .inl (gI g, 480, .inl (upd (V 1) (40 * k + NN k) (x)))), (X 2, .inl (gI g, 24, .inl (V 2))), (X 3, .inl (gI g, 24, .inl (V 3))), (X 4, .inl (gI g, 24, .inl (V 4))), (X 5, .inl (gI g, 192, .inl (V 5))), (X 6, .inl (gI g, 24, .inl (V 6))), (X 7, .inl (gI g, 24, .inl (V 7))), (X 8, .inl (gI g, 24, .inl (V 8)))] H := hP
        have hD : va_D A [(h, .inr (3, [.int (0), .int (nI lc), .ref (X 0), .ref (X 1), .int (nI ec), .ref (X 2), .ref (X 3), .ref (X 4), .ref (X 5), .ref (X 6), .ref (X 7), .ref (X 8)])), (X 0, .inl (gI g, 12, .inl (upd (V 0) (k) (nI (NN k + 1))))), (X 1, .inl (gI g, 480, .inl (upd (V 1) (40 * k + NN k) (x)))), (X 2, .inl (gI g, 24, .inl (V 2))), (X 3, .inl (gI g, 24, .inl (V 3))), (X 4, .inl (gI g, 24, .inl (V 4))), (X 5, .inl (gI g, 192, .inl (V 5))), (X 6, .inl (gI g, 24, .inl (V 6))), (X 7, .inl (gI g, 24, .inl (V 7))), (X 8, .inl (gI g, 24, .inl (V 8)))] := hD
        refine lv_aload_n hx hb dX3_write_79 rfl (lv_at hl 0 rfl) ?_
        refine va_get (D := gD g) (ci := 3) (v := .ref (X 0)) (C := RX3) (T := TX3) (N := 12) hx hb hts iX3 hown hK.1 hP 0 rfl rfl 2 (by decide) f9 (fun _ h9 => h9) rfl dX3_write_80 ?_
        refine lv_iload_n hx hb dX3_write_83 rfl (lv_at hl 1 rfl) ?_
        refine ld_I (k := k) (n := 12) (f := upd (V 0) (k) (nI (NN k + 1))) hx hb hK.1 hP 1 rfl (by omega) (by omega) dX3_write_84 ?_
        refine lv_toI (z := nI (NN k + 1)) (upd_at _ _ _) ?_
        exact hret _ _ _ _ hP hS dX3_write_85
      · omega
    · exact absurd c26 (by rw [hs]; decide)
  · exact absurd c10 (by rw [hgk]; decide)

set_option maxHeartbeats 4000000 in
set_option maxRecDepth 100000 in
/-- write_1 -/
theorem c_X3_write_1 (l : Launch) (g : gT) (h : Nat) (X : Nat → Nat) (V : Nat → Nat → Int32) (th : Int32) (lc ec : Nat) (hlc : lc ≤ 12) (hec : ec ≤ 24) (x : Int32) (hxb : inB x lc = false) (y : Int32) : wM g l yX3_write wsX3_write { frames := 2, cells := 0, slots := 0, locals := 43 } [.ref (h), .int (x), .int (y)] (mdW g h X V th lc ec) (some (.int (0))) (mdW g h X V 1 lc ec) := by
  refine wr_ofI (cc := cX3_write) (maxL := 3) (by decide) rfl (Nat.le_of_ble_eq_true rfl) ?_
  intro p e s m args below meth c H0 ls A Q hx hb hml hts hown hK hP hD hS hl hret
  have hl : lv_has ls 3 [(0, .ref (h)), (1, .int (x)), (2, .int (y))] := hl
  have S : CallFix p m c cX3_write 3 s args wsX3_write RX3 := ⟨hx, hb, hml, hown, hts⟩
  have iX3 : ∀ w ∈ u_ws RX3 TX3 12, w ∈ wsX3_write := by decide +kernel
  have f37 := hts (.fieldLink RX3 37 "LetterSealsModel" "thrown" "I") (by decide +kernel)
  obtain ⟨H, eH⟩ : ∃ H : Heap, H = H0 := ⟨_, rfl⟩
  rw [← eH] at hP ⊢
  have hS : va_S A H0 H [] := by rw [eH]; exact hS
  have hP : va_P (gD g) vwCl [(h, .inr (3, [.int (th), .int (nI lc), .ref (X 0), .ref (X 1), .int (nI ec), .ref (X 2), .ref (X 3), .ref (X 4), .ref (X 5), .ref (X 6), .ref (X 7), .ref (X 8)])), (X 0, .inl (gI g, 12, .inl (V 0))), (X 1, .inl (gI g, 480, .inl (V 1))), (X 2, .inl (gI g, 24, .inl (V 2))), (X 3, .inl (gI g, 24, .inl (V 3))), (X 4, .inl (gI g, 24, .inl (V 4))), (X 5, .inl (gI g, 192, .inl (V 5))), (X 6, .inl (gI g, 24, .inl (V 6))), (X 7, .inl (gI g, 24, .inl (V 7))), (X 8, .inl (gI g, 24, .inl (V 8)))] H := hP
  have hD : va_D A [(h, .inr (3, [.int (th), .int (nI lc), .ref (X 0), .ref (X 1), .int (nI ec), .ref (X 2), .ref (X 3), .ref (X 4), .ref (X 5), .ref (X 6), .ref (X 7), .ref (X 8)])), (X 0, .inl (gI g, 12, .inl (V 0))), (X 1, .inl (gI g, 480, .inl (V 1))), (X 2, .inl (gI g, 24, .inl (V 2))), (X 3, .inl (gI g, 24, .inl (V 3))), (X 4, .inl (gI g, 24, .inl (V 4))), (X 5, .inl (gI g, 192, .inl (V 5))), (X 6, .inl (gI g, 24, .inl (V 6))), (X 7, .inl (gI g, 24, .inl (V 7))), (X 8, .inl (gI g, 24, .inl (V 8)))] := hD
  refine lv_aload_n hx hb dX3_write_0 rfl (lv_at hl 0 rfl) ?_
  refine lv_iconst (v := 0) hx hb dX3_write_1 (by decide +kernel) ?_
  refine va_put (D := gD g) (ci := 3) (v := .int (0)) (ty := .int) (C := RX3) (T := TX3) (N := 12) hx hb hts iX3 tyX3 tyX3_ok nmX3 hown hK.1 hP hD hS 0 rfl rfl 0 (by decide) f37 (fun _ h9 => h9) rfl (by decide +kernel) rfl rfl (Nat.le_of_ble_eq_true rfl) dX3_write_2 (fun H locs hP hD hS => ?_)
  have hP : va_P (gD g) vwCl [(h, .inr (3, [.int (0), .int (nI lc), .ref (X 0), .ref (X 1), .int (nI ec), .ref (X 2), .ref (X 3), .ref (X 4), .ref (X 5), .ref (X 6), .ref (X 7), .ref (X 8)])), (X 0, .inl (gI g, 12, .inl (V 0))), (X 1, .inl (gI g, 480, .inl (V 1))), (X 2, .inl (gI g, 24, .inl (V 2))), (X 3, .inl (gI g, 24, .inl (V 3))), (X 4, .inl (gI g, 24, .inl (V 4))), (X 5, .inl (gI g, 192, .inl (V 5))), (X 6, .inl (gI g, 24, .inl (V 6))), (X 7, .inl (gI g, 24, .inl (V 7))), (X 8, .inl (gI g, 24, .inl (V 8)))] H := hP
  have hD : va_D A [(h, .inr (3, [.int (0), .int (nI lc), .ref (X 0), .ref (X 1), .int (nI ec), .ref (X 2), .ref (X 3), .ref (X 4), .ref (X 5), .ref (X 6), .ref (X 7), .ref (X 8)])), (X 0, .inl (gI g, 12, .inl (V 0))), (X 1, .inl (gI g, 480, .inl (V 1))), (X 2, .inl (gI g, 24, .inl (V 2))), (X 3, .inl (gI g, 24, .inl (V 3))), (X 4, .inl (gI g, 24, .inl (V 4))), (X 5, .inl (gI g, 192, .inl (V 5))), (X 6, .inl (gI g, 24, .inl (V 6))), (X 7, .inl (gI g, 24, .inl (V 7))), (X 8, .inl (gI g, 24, .inl (V 8)))] := hD
  refine lv_aload_n hx hb dX3_write_5 rfl (lv_at hl 0 rfl) ?_
  refine lv_iload_n hx hb dX3_write_6 rfl (lv_at hl 1 rfl) ?_
  refine p_V (As := [.int (x)]) (rest := []) S (c_X3_isLetter l g h X V 0 lc ec (x) hlc hec) (cwV 1 hts gX3_write_X3_isLetter rfl rfl rfl (by decide +kernel) ⟨Nat.le_of_ble_eq_true rfl, Nat.le_of_ble_eq_true rfl⟩) hK (va_recv hK.1 hP (ci := 3) (q0 := 0) rfl rfl) (hP) rfl hl.1 rfl (Nat.le_of_ble_eq_true rfl) dX3_write_7 ⟨Nat.le_of_ble_eq_true rfl, Nat.le_of_ble_eq_true rfl⟩ ?_
  refine br_neB (tgt := 19) hx hb dX3_write_10 (by decide) (fun c10 => ?_) (fun c10 => ?_)
  · exact absurd c10 (by rw [hxb]; decide)
  · refine lv_aload_n hx hb dX3_write_13 rfl (lv_at hl 0 rfl) ?_
    refine lv_iconst (v := 1) hx hb dX3_write_14 (by decide +kernel) ?_
    refine w_V (As := [.int (1)]) (rest := []) S (c_X3_no l g h X V 0 lc ec (1)) (cwV 1 hts gX3_write_X3_no rfl rfl rfl (by decide +kernel) ⟨Nat.le_of_ble_eq_true rfl, Nat.le_of_ble_eq_true rfl⟩) hK (va_recv hK.1 hP (ci := 3) (q0 := 0) rfl rfl) hP (hD.weaken (fun _ _ _ _ => trivial)) hS (wA_D hD [0, 1, 2, 3, 4, 5, 6, 7, 8, 9] rfl) rfl hl.1 rfl (Nat.le_of_ble_eq_true rfl) dX3_write_15 ⟨Nat.le_of_ble_eq_true rfl, Nat.le_of_ble_eq_true rfl⟩ (fun H locs hP1 hz1 hk1 hS => ?_)
    have hP : va_P (gD g) vwCl [(h, .inr (3, [.int (1), .int (nI lc), .ref (X 0), .ref (X 1), .int (nI ec), .ref (X 2), .ref (X 3), .ref (X 4), .ref (X 5), .ref (X 6), .ref (X 7), .ref (X 8)])), (X 0, .inl (gI g, 12, .inl (V 0))), (X 1, .inl (gI g, 480, .inl (V 1))), (X 2, .inl (gI g, 24, .inl (V 2))), (X 3, .inl (gI g, 24, .inl (V 3))), (X 4, .inl (gI g, 24, .inl (V 4))), (X 5, .inl (gI g, 192, .inl (V 5))), (X 6, .inl (gI g, 24, .inl (V 6))), (X 7, .inl (gI g, 24, .inl (V 7))), (X 8, .inl (gI g, 24, .inl (V 8)))] H := hP1
    have hD : va_D A [(h, .inr (3, [.int (1), .int (nI lc), .ref (X 0), .ref (X 1), .int (nI ec), .ref (X 2), .ref (X 3), .ref (X 4), .ref (X 5), .ref (X 6), .ref (X 7), .ref (X 8)])), (X 0, .inl (gI g, 12, .inl (V 0))), (X 1, .inl (gI g, 480, .inl (V 1))), (X 2, .inl (gI g, 24, .inl (V 2))), (X 3, .inl (gI g, 24, .inl (V 3))), (X 4, .inl (gI g, 24, .inl (V 4))), (X 5, .inl (gI g, 192, .inl (V 5))), (X 6, .inl (gI g, 24, .inl (V 6))), (X 7, .inl (gI g, 24, .inl (V 7))), (X 8, .inl (gI g, 24, .inl (V 8)))] := D_same hD rfl
    exact hret _ _ _ _ hP hS dX3_write_18

set_option maxHeartbeats 4000000 in
set_option maxRecDepth 100000 in
/-- write_2 -/
theorem c_X3_write_2 (l : Launch) (g : gT) (h : Nat) (X : Nat → Nat) (V : Nat → Nat → Int32) (th : Int32) (lc ec : Nat) (NN : Nat → Nat) (hlc : lc ≤ 12) (hec : ec ≤ 24) (hNN : ∀ i, i < lc → V 0 i = nI (NN i) ∧ NN i ≤ 40) (k : Nat) (hk : k < lc) (x : Int32) (hs : (decide (0 ≤ x) && decide (x ≤ 29)) = false) : wM g l yX3_write wsX3_write { frames := 2, cells := 0, slots := 0, locals := 43 } [.ref (h), .int (nI k), .int (x)] (mdW g h X V th lc ec) (some (.int (0))) (mdW g h X V 2 lc ec) := by
  refine wr_ofI (cc := cX3_write) (maxL := 3) (by decide) rfl (Nat.le_of_ble_eq_true rfl) ?_
  intro p e s m args below meth c H0 ls A Q hx hb hml hts hown hK hP hD hS hl hret
  have hl : lv_has ls 3 [(0, .ref (h)), (1, .int (nI k)), (2, .int (x))] := hl
  have S : CallFix p m c cX3_write 3 s args wsX3_write RX3 := ⟨hx, hb, hml, hown, hts⟩
  have hgk : inB (nI k) lc = true := inB_nI hk (by omega)
  have hVn := (hNN k hk).1
  have hn := (hNN k hk).2
  have iX3 : ∀ w ∈ u_ws RX3 TX3 12, w ∈ wsX3_write := by decide +kernel
  have f37 := hts (.fieldLink RX3 37 "LetterSealsModel" "thrown" "I") (by decide +kernel)
  obtain ⟨H, eH⟩ : ∃ H : Heap, H = H0 := ⟨_, rfl⟩
  rw [← eH] at hP ⊢
  have hS : va_S A H0 H [] := by rw [eH]; exact hS
  have hP : va_P (gD g) vwCl [(h, .inr (3, [.int (th), .int (nI lc), .ref (X 0), .ref (X 1), .int (nI ec), .ref (X 2), .ref (X 3), .ref (X 4), .ref (X 5), .ref (X 6), .ref (X 7), .ref (X 8)])), (X 0, .inl (gI g, 12, .inl (V 0))), (X 1, .inl (gI g, 480, .inl (V 1))), (X 2, .inl (gI g, 24, .inl (V 2))), (X 3, .inl (gI g, 24, .inl (V 3))), (X 4, .inl (gI g, 24, .inl (V 4))), (X 5, .inl (gI g, 192, .inl (V 5))), (X 6, .inl (gI g, 24, .inl (V 6))), (X 7, .inl (gI g, 24, .inl (V 7))), (X 8, .inl (gI g, 24, .inl (V 8)))] H := hP
  have hD : va_D A [(h, .inr (3, [.int (th), .int (nI lc), .ref (X 0), .ref (X 1), .int (nI ec), .ref (X 2), .ref (X 3), .ref (X 4), .ref (X 5), .ref (X 6), .ref (X 7), .ref (X 8)])), (X 0, .inl (gI g, 12, .inl (V 0))), (X 1, .inl (gI g, 480, .inl (V 1))), (X 2, .inl (gI g, 24, .inl (V 2))), (X 3, .inl (gI g, 24, .inl (V 3))), (X 4, .inl (gI g, 24, .inl (V 4))), (X 5, .inl (gI g, 192, .inl (V 5))), (X 6, .inl (gI g, 24, .inl (V 6))), (X 7, .inl (gI g, 24, .inl (V 7))), (X 8, .inl (gI g, 24, .inl (V 8)))] := hD
  refine lv_aload_n hx hb dX3_write_0 rfl (lv_at hl 0 rfl) ?_
  refine lv_iconst (v := 0) hx hb dX3_write_1 (by decide +kernel) ?_
  refine va_put (D := gD g) (ci := 3) (v := .int (0)) (ty := .int) (C := RX3) (T := TX3) (N := 12) hx hb hts iX3 tyX3 tyX3_ok nmX3 hown hK.1 hP hD hS 0 rfl rfl 0 (by decide) f37 (fun _ h9 => h9) rfl (by decide +kernel) rfl rfl (Nat.le_of_ble_eq_true rfl) dX3_write_2 (fun H locs hP hD hS => ?_)
  have hP : va_P (gD g) vwCl [(h, .inr (3, [.int (0), .int (nI lc), .ref (X 0), .ref (X 1), .int (nI ec), .ref (X 2), .ref (X 3), .ref (X 4), .ref (X 5), .ref (X 6), .ref (X 7), .ref (X 8)])), (X 0, .inl (gI g, 12, .inl (V 0))), (X 1, .inl (gI g, 480, .inl (V 1))), (X 2, .inl (gI g, 24, .inl (V 2))), (X 3, .inl (gI g, 24, .inl (V 3))), (X 4, .inl (gI g, 24, .inl (V 4))), (X 5, .inl (gI g, 192, .inl (V 5))), (X 6, .inl (gI g, 24, .inl (V 6))), (X 7, .inl (gI g, 24, .inl (V 7))), (X 8, .inl (gI g, 24, .inl (V 8)))] H := hP
  have hD : va_D A [(h, .inr (3, [.int (0), .int (nI lc), .ref (X 0), .ref (X 1), .int (nI ec), .ref (X 2), .ref (X 3), .ref (X 4), .ref (X 5), .ref (X 6), .ref (X 7), .ref (X 8)])), (X 0, .inl (gI g, 12, .inl (V 0))), (X 1, .inl (gI g, 480, .inl (V 1))), (X 2, .inl (gI g, 24, .inl (V 2))), (X 3, .inl (gI g, 24, .inl (V 3))), (X 4, .inl (gI g, 24, .inl (V 4))), (X 5, .inl (gI g, 192, .inl (V 5))), (X 6, .inl (gI g, 24, .inl (V 6))), (X 7, .inl (gI g, 24, .inl (V 7))), (X 8, .inl (gI g, 24, .inl (V 8)))] := hD
  refine lv_aload_n hx hb dX3_write_5 rfl (lv_at hl 0 rfl) ?_
  refine lv_iload_n hx hb dX3_write_6 rfl (lv_at hl 1 rfl) ?_
  refine p_V (As := [.int (nI k)]) (rest := []) S (c_X3_isLetter l g h X V 0 lc ec (nI k) hlc hec) (cwV 1 hts gX3_write_X3_isLetter rfl rfl rfl (by decide +kernel) ⟨Nat.le_of_ble_eq_true rfl, Nat.le_of_ble_eq_true rfl⟩) hK (va_recv hK.1 hP (ci := 3) (q0 := 0) rfl rfl) (hP) rfl hl.1 rfl (Nat.le_of_ble_eq_true rfl) dX3_write_7 ⟨Nat.le_of_ble_eq_true rfl, Nat.le_of_ble_eq_true rfl⟩ ?_
  refine br_neB (tgt := 19) hx hb dX3_write_10 (by decide) (fun c10 => ?_) (fun c10 => ?_)
  · refine lv_iload_n hx hb dX3_write_19 rfl (lv_at hl 2 rfl) ?_
    refine lv_iconst (v := 0) hx hb dX3_write_20 (by decide +kernel) ?_
    refine lv_bipush (v := 29) hx hb dX3_write_21 (by decide +kernel) ?_
    refine p_S (As := [.int (x), .int (0), .int (29)]) (rest := []) S (c_X3_isFrom l g (x) (0) (29)) (cwS 3 hts gX3_write_X3_isFrom rfl rfl rfl (by decide +kernel) ⟨Nat.le_of_ble_eq_true rfl, Nat.le_of_ble_eq_true rfl⟩) hK (trivial) rfl hl.1 rfl (Nat.le_of_ble_eq_true rfl) dX3_write_23 ⟨Nat.le_of_ble_eq_true rfl, Nat.le_of_ble_eq_true rfl⟩ ?_
    refine br_neB (tgt := 35) hx hb dX3_write_26 (by decide) (fun c26 => ?_) (fun c26 => ?_)
    · exact absurd c26 (by rw [hs]; decide)
    · refine lv_aload_n hx hb dX3_write_29 rfl (lv_at hl 0 rfl) ?_
      refine lv_iconst (v := 2) hx hb dX3_write_30 (by decide +kernel) ?_
      refine w_V (As := [.int (2)]) (rest := []) S (c_X3_no l g h X V 0 lc ec (2)) (cwV 1 hts gX3_write_X3_no rfl rfl rfl (by decide +kernel) ⟨Nat.le_of_ble_eq_true rfl, Nat.le_of_ble_eq_true rfl⟩) hK (va_recv hK.1 hP (ci := 3) (q0 := 0) rfl rfl) hP (hD.weaken (fun _ _ _ _ => trivial)) hS (wA_D hD [0, 1, 2, 3, 4, 5, 6, 7, 8, 9] rfl) rfl hl.1 rfl (Nat.le_of_ble_eq_true rfl) dX3_write_31 ⟨Nat.le_of_ble_eq_true rfl, Nat.le_of_ble_eq_true rfl⟩ (fun H locs hP1 hz1 hk1 hS => ?_)
      have hP : va_P (gD g) vwCl [(h, .inr (3, [.int (2), .int (nI lc), .ref (X 0), .ref (X 1), .int (nI ec), .ref (X 2), .ref (X 3), .ref (X 4), .ref (X 5), .ref (X 6), .ref (X 7), .ref (X 8)])), (X 0, .inl (gI g, 12, .inl (V 0))), (X 1, .inl (gI g, 480, .inl (V 1))), (X 2, .inl (gI g, 24, .inl (V 2))), (X 3, .inl (gI g, 24, .inl (V 3))), (X 4, .inl (gI g, 24, .inl (V 4))), (X 5, .inl (gI g, 192, .inl (V 5))), (X 6, .inl (gI g, 24, .inl (V 6))), (X 7, .inl (gI g, 24, .inl (V 7))), (X 8, .inl (gI g, 24, .inl (V 8)))] H := hP1
      have hD : va_D A [(h, .inr (3, [.int (2), .int (nI lc), .ref (X 0), .ref (X 1), .int (nI ec), .ref (X 2), .ref (X 3), .ref (X 4), .ref (X 5), .ref (X 6), .ref (X 7), .ref (X 8)])), (X 0, .inl (gI g, 12, .inl (V 0))), (X 1, .inl (gI g, 480, .inl (V 1))), (X 2, .inl (gI g, 24, .inl (V 2))), (X 3, .inl (gI g, 24, .inl (V 3))), (X 4, .inl (gI g, 24, .inl (V 4))), (X 5, .inl (gI g, 192, .inl (V 5))), (X 6, .inl (gI g, 24, .inl (V 6))), (X 7, .inl (gI g, 24, .inl (V 7))), (X 8, .inl (gI g, 24, .inl (V 8)))] := D_same hD rfl
      exact hret _ _ _ _ hP hS dX3_write_34
  · exact absurd c10 (by rw [hgk]; decide)

set_option maxHeartbeats 4000000 in
set_option maxRecDepth 100000 in
/-- write_3 -/
theorem c_X3_write_3 (l : Launch) (g : gT) (h : Nat) (X : Nat → Nat) (V : Nat → Nat → Int32) (th : Int32) (lc ec : Nat) (NN : Nat → Nat) (hlc : lc ≤ 12) (hec : ec ≤ 24) (hNN : ∀ i, i < lc → V 0 i = nI (NN i) ∧ NN i ≤ 40) (k : Nat) (hk : k < lc) (x : Int32) (hs : (decide (0 ≤ x) && decide (x ≤ 29)) = true) (hn1 : NN k = 40) : wM g l yX3_write wsX3_write { frames := 2, cells := 0, slots := 0, locals := 43 } [.ref (h), .int (nI k), .int (x)] (mdW g h X V th lc ec) (some (.int (0))) (mdW g h X V 3 lc ec) := by
  refine wr_ofI (cc := cX3_write) (maxL := 3) (by decide) rfl (Nat.le_of_ble_eq_true rfl) ?_
  intro p e s m args below meth c H0 ls A Q hx hb hml hts hown hK hP hD hS hl hret
  have hl : lv_has ls 3 [(0, .ref (h)), (1, .int (nI k)), (2, .int (x))] := hl
  have S : CallFix p m c cX3_write 3 s args wsX3_write RX3 := ⟨hx, hb, hml, hown, hts⟩
  have hgk : inB (nI k) lc = true := inB_nI hk (by omega)
  have hVn := (hNN k hk).1
  have hn := (hNN k hk).2
  have iX3 : ∀ w ∈ u_ws RX3 TX3 12, w ∈ wsX3_write := by decide +kernel
  have f9 := hts (.fieldLink RX3 9 "LetterSealsModel" "many" "[I") (by decide +kernel)
  have f37 := hts (.fieldLink RX3 37 "LetterSealsModel" "thrown" "I") (by decide +kernel)
  obtain ⟨H, eH⟩ : ∃ H : Heap, H = H0 := ⟨_, rfl⟩
  rw [← eH] at hP ⊢
  have hS : va_S A H0 H [] := by rw [eH]; exact hS
  have hP : va_P (gD g) vwCl [(h, .inr (3, [.int (th), .int (nI lc), .ref (X 0), .ref (X 1), .int (nI ec), .ref (X 2), .ref (X 3), .ref (X 4), .ref (X 5), .ref (X 6), .ref (X 7), .ref (X 8)])), (X 0, .inl (gI g, 12, .inl (V 0))), (X 1, .inl (gI g, 480, .inl (V 1))), (X 2, .inl (gI g, 24, .inl (V 2))), (X 3, .inl (gI g, 24, .inl (V 3))), (X 4, .inl (gI g, 24, .inl (V 4))), (X 5, .inl (gI g, 192, .inl (V 5))), (X 6, .inl (gI g, 24, .inl (V 6))), (X 7, .inl (gI g, 24, .inl (V 7))), (X 8, .inl (gI g, 24, .inl (V 8)))] H := hP
  have hD : va_D A [(h, .inr (3, [.int (th), .int (nI lc), .ref (X 0), .ref (X 1), .int (nI ec), .ref (X 2), .ref (X 3), .ref (X 4), .ref (X 5), .ref (X 6), .ref (X 7), .ref (X 8)])), (X 0, .inl (gI g, 12, .inl (V 0))), (X 1, .inl (gI g, 480, .inl (V 1))), (X 2, .inl (gI g, 24, .inl (V 2))), (X 3, .inl (gI g, 24, .inl (V 3))), (X 4, .inl (gI g, 24, .inl (V 4))), (X 5, .inl (gI g, 192, .inl (V 5))), (X 6, .inl (gI g, 24, .inl (V 6))), (X 7, .inl (gI g, 24, .inl (V 7))), (X 8, .inl (gI g, 24, .inl (V 8)))] := hD
  refine lv_aload_n hx hb dX3_write_0 rfl (lv_at hl 0 rfl) ?_
  refine lv_iconst (v := 0) hx hb dX3_write_1 (by decide +kernel) ?_
  refine va_put (D := gD g) (ci := 3) (v := .int (0)) (ty := .int) (C := RX3) (T := TX3) (N := 12) hx hb hts iX3 tyX3 tyX3_ok nmX3 hown hK.1 hP hD hS 0 rfl rfl 0 (by decide) f37 (fun _ h9 => h9) rfl (by decide +kernel) rfl rfl (Nat.le_of_ble_eq_true rfl) dX3_write_2 (fun H locs hP hD hS => ?_)
  have hP : va_P (gD g) vwCl [(h, .inr (3, [.int (0), .int (nI lc), .ref (X 0), .ref (X 1), .int (nI ec), .ref (X 2), .ref (X 3), .ref (X 4), .ref (X 5), .ref (X 6), .ref (X 7), .ref (X 8)])), (X 0, .inl (gI g, 12, .inl (V 0))), (X 1, .inl (gI g, 480, .inl (V 1))), (X 2, .inl (gI g, 24, .inl (V 2))), (X 3, .inl (gI g, 24, .inl (V 3))), (X 4, .inl (gI g, 24, .inl (V 4))), (X 5, .inl (gI g, 192, .inl (V 5))), (X 6, .inl (gI g, 24, .inl (V 6))), (X 7, .inl (gI g, 24, .inl (V 7))), (X 8, .inl (gI g, 24, .inl (V 8)))] H := hP
  have hD : va_D A [(h, .inr (3, [.int (0), .int (nI lc), .ref (X 0), .ref (X 1), .int (nI ec), .ref (X 2), .ref (X 3), .ref (X 4), .ref (X 5), .ref (X 6), .ref (X 7), .ref (X 8)])), (X 0, .inl (gI g, 12, .inl (V 0))), (X 1, .inl (gI g, 480, .inl (V 1))), (X 2, .inl (gI g, 24, .inl (V 2))), (X 3, .inl (gI g, 24, .inl (V 3))), (X 4, .inl (gI g, 24, .inl (V 4))), (X 5, .inl (gI g, 192, .inl (V 5))), (X 6, .inl (gI g, 24, .inl (V 6))), (X 7, .inl (gI g, 24, .inl (V 7))), (X 8, .inl (gI g, 24, .inl (V 8)))] := hD
  refine lv_aload_n hx hb dX3_write_5 rfl (lv_at hl 0 rfl) ?_
  refine lv_iload_n hx hb dX3_write_6 rfl (lv_at hl 1 rfl) ?_
  refine p_V (As := [.int (nI k)]) (rest := []) S (c_X3_isLetter l g h X V 0 lc ec (nI k) hlc hec) (cwV 1 hts gX3_write_X3_isLetter rfl rfl rfl (by decide +kernel) ⟨Nat.le_of_ble_eq_true rfl, Nat.le_of_ble_eq_true rfl⟩) hK (va_recv hK.1 hP (ci := 3) (q0 := 0) rfl rfl) (hP) rfl hl.1 rfl (Nat.le_of_ble_eq_true rfl) dX3_write_7 ⟨Nat.le_of_ble_eq_true rfl, Nat.le_of_ble_eq_true rfl⟩ ?_
  refine br_neB (tgt := 19) hx hb dX3_write_10 (by decide) (fun c10 => ?_) (fun c10 => ?_)
  · refine lv_iload_n hx hb dX3_write_19 rfl (lv_at hl 2 rfl) ?_
    refine lv_iconst (v := 0) hx hb dX3_write_20 (by decide +kernel) ?_
    refine lv_bipush (v := 29) hx hb dX3_write_21 (by decide +kernel) ?_
    refine p_S (As := [.int (x), .int (0), .int (29)]) (rest := []) S (c_X3_isFrom l g (x) (0) (29)) (cwS 3 hts gX3_write_X3_isFrom rfl rfl rfl (by decide +kernel) ⟨Nat.le_of_ble_eq_true rfl, Nat.le_of_ble_eq_true rfl⟩) hK (trivial) rfl hl.1 rfl (Nat.le_of_ble_eq_true rfl) dX3_write_23 ⟨Nat.le_of_ble_eq_true rfl, Nat.le_of_ble_eq_true rfl⟩ ?_
    refine br_neB (tgt := 35) hx hb dX3_write_26 (by decide) (fun c26 => ?_) (fun c26 => ?_)
    · refine lv_aload_n hx hb dX3_write_35 rfl (lv_at hl 0 rfl) ?_
      refine va_get (D := gD g) (ci := 3) (v := .ref (X 0)) (C := RX3) (T := TX3) (N := 12) hx hb hts iX3 hown hK.1 hP 0 rfl rfl 2 (by decide) f9 (fun _ h9 => h9) rfl dX3_write_36 ?_
      refine lv_iload_n hx hb dX3_write_39 rfl (lv_at hl 1 rfl) ?_
      refine ld_I (k := k) (n := 12) (f := V 0) hx hb hK.1 hP 1 rfl (by omega) (by omega) dX3_write_40 ?_
      refine lv_toI (z := nI (NN k)) (hVn) ?_
      refine lv_bipush (v := nI (40)) hx hb dX3_write_41 (by decide +kernel) ?_
      refine br_ne (a := NN k) (b := 40) (tgt := 52) hx hb (by omega) (by omega) dX3_write_43 (by decide) (fun c43 => ?_) (fun c43 => ?_)
      · omega
      · refine lv_aload_n hx hb dX3_write_46 rfl (lv_at hl 0 rfl) ?_
        refine lv_iconst (v := 3) hx hb dX3_write_47 (by decide +kernel) ?_
        refine w_V (As := [.int (3)]) (rest := []) S (c_X3_no l g h X V 0 lc ec (3)) (cwV 1 hts gX3_write_X3_no rfl rfl rfl (by decide +kernel) ⟨Nat.le_of_ble_eq_true rfl, Nat.le_of_ble_eq_true rfl⟩) hK (va_recv hK.1 hP (ci := 3) (q0 := 0) rfl rfl) hP (hD.weaken (fun _ _ _ _ => trivial)) hS (wA_D hD [0, 1, 2, 3, 4, 5, 6, 7, 8, 9] rfl) rfl hl.1 rfl (Nat.le_of_ble_eq_true rfl) dX3_write_48 ⟨Nat.le_of_ble_eq_true rfl, Nat.le_of_ble_eq_true rfl⟩ (fun H locs hP1 hz1 hk1 hS => ?_)
        have hP : va_P (gD g) vwCl [(h, .inr (3, [.int (3), .int (nI lc), .ref (X 0), .ref (X 1), .int (nI ec), .ref (X 2), .ref (X 3), .ref (X 4), .ref (X 5), .ref (X 6), .ref (X 7), .ref (X 8)])), (X 0, .inl (gI g, 12, .inl (V 0))), (X 1, .inl (gI g, 480, .inl (V 1))), (X 2, .inl (gI g, 24, .inl (V 2))), (X 3, .inl (gI g, 24, .inl (V 3))), (X 4, .inl (gI g, 24, .inl (V 4))), (X 5, .inl (gI g, 192, .inl (V 5))), (X 6, .inl (gI g, 24, .inl (V 6))), (X 7, .inl (gI g, 24, .inl (V 7))), (X 8, .inl (gI g, 24, .inl (V 8)))] H := hP1
        have hD : va_D A [(h, .inr (3, [.int (3), .int (nI lc), .ref (X 0), .ref (X 1), .int (nI ec), .ref (X 2), .ref (X 3), .ref (X 4), .ref (X 5), .ref (X 6), .ref (X 7), .ref (X 8)])), (X 0, .inl (gI g, 12, .inl (V 0))), (X 1, .inl (gI g, 480, .inl (V 1))), (X 2, .inl (gI g, 24, .inl (V 2))), (X 3, .inl (gI g, 24, .inl (V 3))), (X 4, .inl (gI g, 24, .inl (V 4))), (X 5, .inl (gI g, 192, .inl (V 5))), (X 6, .inl (gI g, 24, .inl (V 6))), (X 7, .inl (gI g, 24, .inl (V 7))), (X 8, .inl (gI g, 24, .inl (V 8)))] := D_same hD rfl
        exact hret _ _ _ _ hP hS dX3_write_51
    · exact absurd c26 (by rw [hs]; decide)
  · exact absurd c10 (by rw [hgk]; decide)

set_option maxHeartbeats 4000000 in
set_option maxRecDepth 100000 in
/-- erase -/
theorem c_X3_erase (l : Launch) (g : gT) (h : Nat) (X : Nat → Nat) (V : Nat → Nat → Int32) (th : Int32) (lc ec : Nat) (NN : Nat → Nat) (hlc : lc ≤ 12) (hec : ec ≤ 24) (hNN : ∀ i, i < lc → V 0 i = nI (NN i) ∧ NN i ≤ 40) (k : Nat) (hk : k < lc) (hn1 : 0 < NN k) : wM g l yX3_erase wsX3_erase { frames := 2, cells := 0, slots := 0, locals := 43 } [.ref (h), .int (nI k)] (mdW g h X V th lc ec) (some (.int (V 1 (40 * k + (NN k - 1))))) (mdW g h X (vup V 0 (upd (V 0) k (nI (NN k - 1)))) 0 lc ec) := by
  refine wr_ofI (cc := cX3_erase) (maxL := 2) (by decide) rfl (Nat.le_of_ble_eq_true rfl) ?_
  intro p e s m args below meth c H0 ls A Q hx hb hml hts hown hK hP hD hS hl hret
  have hl : lv_has ls 2 [(0, .ref (h)), (1, .int (nI k))] := hl
  have S : CallFix p m c cX3_erase 2 s args wsX3_erase RX3 := ⟨hx, hb, hml, hown, hts⟩
  have hgk : inB (nI k) lc = true := inB_nI hk (by omega)
  have hVn := (hNN k hk).1
  have hn := (hNN k hk).2
  have iX3 : ∀ w ∈ u_ws RX3 TX3 12, w ∈ wsX3_erase := by decide +kernel
  have f9 := hts (.fieldLink RX3 9 "LetterSealsModel" "many" "[I") (by decide +kernel)
  have f37 := hts (.fieldLink RX3 37 "LetterSealsModel" "thrown" "I") (by decide +kernel)
  obtain ⟨H, eH⟩ : ∃ H : Heap, H = H0 := ⟨_, rfl⟩
  rw [← eH] at hP ⊢
  have hS : va_S A H0 H [] := by rw [eH]; exact hS
  have hP : va_P (gD g) vwCl [(h, .inr (3, [.int (th), .int (nI lc), .ref (X 0), .ref (X 1), .int (nI ec), .ref (X 2), .ref (X 3), .ref (X 4), .ref (X 5), .ref (X 6), .ref (X 7), .ref (X 8)])), (X 0, .inl (gI g, 12, .inl (V 0))), (X 1, .inl (gI g, 480, .inl (V 1))), (X 2, .inl (gI g, 24, .inl (V 2))), (X 3, .inl (gI g, 24, .inl (V 3))), (X 4, .inl (gI g, 24, .inl (V 4))), (X 5, .inl (gI g, 192, .inl (V 5))), (X 6, .inl (gI g, 24, .inl (V 6))), (X 7, .inl (gI g, 24, .inl (V 7))), (X 8, .inl (gI g, 24, .inl (V 8)))] H := hP
  have hD : va_D A [(h, .inr (3, [.int (th), .int (nI lc), .ref (X 0), .ref (X 1), .int (nI ec), .ref (X 2), .ref (X 3), .ref (X 4), .ref (X 5), .ref (X 6), .ref (X 7), .ref (X 8)])), (X 0, .inl (gI g, 12, .inl (V 0))), (X 1, .inl (gI g, 480, .inl (V 1))), (X 2, .inl (gI g, 24, .inl (V 2))), (X 3, .inl (gI g, 24, .inl (V 3))), (X 4, .inl (gI g, 24, .inl (V 4))), (X 5, .inl (gI g, 192, .inl (V 5))), (X 6, .inl (gI g, 24, .inl (V 6))), (X 7, .inl (gI g, 24, .inl (V 7))), (X 8, .inl (gI g, 24, .inl (V 8)))] := hD
  refine lv_aload_n hx hb dX3_erase_0 rfl (lv_at hl 0 rfl) ?_
  refine lv_iconst (v := 0) hx hb dX3_erase_1 (by decide +kernel) ?_
  refine va_put (D := gD g) (ci := 3) (v := .int (0)) (ty := .int) (C := RX3) (T := TX3) (N := 12) hx hb hts iX3 tyX3 tyX3_ok nmX3 hown hK.1 hP hD hS 0 rfl rfl 0 (by decide) f37 (fun _ h9 => h9) rfl (by decide +kernel) rfl rfl (Nat.le_of_ble_eq_true rfl) dX3_erase_2 (fun H locs hP hD hS => ?_)
  have hP : va_P (gD g) vwCl [(h, .inr (3, [.int (0), .int (nI lc), .ref (X 0), .ref (X 1), .int (nI ec), .ref (X 2), .ref (X 3), .ref (X 4), .ref (X 5), .ref (X 6), .ref (X 7), .ref (X 8)])), (X 0, .inl (gI g, 12, .inl (V 0))), (X 1, .inl (gI g, 480, .inl (V 1))), (X 2, .inl (gI g, 24, .inl (V 2))), (X 3, .inl (gI g, 24, .inl (V 3))), (X 4, .inl (gI g, 24, .inl (V 4))), (X 5, .inl (gI g, 192, .inl (V 5))), (X 6, .inl (gI g, 24, .inl (V 6))), (X 7, .inl (gI g, 24, .inl (V 7))), (X 8, .inl (gI g, 24, .inl (V 8)))] H := hP
  have hD : va_D A [(h, .inr (3, [.int (0), .int (nI lc), .ref (X 0), .ref (X 1), .int (nI ec), .ref (X 2), .ref (X 3), .ref (X 4), .ref (X 5), .ref (X 6), .ref (X 7), .ref (X 8)])), (X 0, .inl (gI g, 12, .inl (V 0))), (X 1, .inl (gI g, 480, .inl (V 1))), (X 2, .inl (gI g, 24, .inl (V 2))), (X 3, .inl (gI g, 24, .inl (V 3))), (X 4, .inl (gI g, 24, .inl (V 4))), (X 5, .inl (gI g, 192, .inl (V 5))), (X 6, .inl (gI g, 24, .inl (V 6))), (X 7, .inl (gI g, 24, .inl (V 7))), (X 8, .inl (gI g, 24, .inl (V 8)))] := hD
  refine lv_aload_n hx hb dX3_erase_5 rfl (lv_at hl 0 rfl) ?_
  refine lv_iload_n hx hb dX3_erase_6 rfl (lv_at hl 1 rfl) ?_
  refine p_V (As := [.int (nI k)]) (rest := []) S (c_X3_isLetter l g h X V 0 lc ec (nI k) hlc hec) (cwV 1 hts gX3_erase_X3_isLetter rfl rfl rfl (by decide +kernel) ⟨Nat.le_of_ble_eq_true rfl, Nat.le_of_ble_eq_true rfl⟩) hK (va_recv hK.1 hP (ci := 3) (q0 := 0) rfl rfl) (hP) rfl hl.1 rfl (Nat.le_of_ble_eq_true rfl) dX3_erase_7 ⟨Nat.le_of_ble_eq_true rfl, Nat.le_of_ble_eq_true rfl⟩ ?_
  refine br_neB (tgt := 19) hx hb dX3_erase_10 (by decide) (fun c10 => ?_) (fun c10 => ?_)
  · refine lv_aload_n hx hb dX3_erase_19 rfl (lv_at hl 0 rfl) ?_
    refine va_get (D := gD g) (ci := 3) (v := .ref (X 0)) (C := RX3) (T := TX3) (N := 12) hx hb hts iX3 hown hK.1 hP 0 rfl rfl 2 (by decide) f9 (fun _ h9 => h9) rfl dX3_erase_20 ?_
    refine lv_iload_n hx hb dX3_erase_23 rfl (lv_at hl 1 rfl) ?_
    refine ld_I (k := k) (n := 12) (f := V 0) hx hb hK.1 hP 1 rfl (by omega) (by omega) dX3_erase_24 ?_
    refine lv_toI (z := nI (NN k)) (hVn) ?_
    refine br_ne0 (a := NN k) (tgt := 34) hx hb (by omega) dX3_erase_25 (by decide) (fun c25 => ?_) (fun c25 => ?_)
    · refine lv_aload_n hx hb dX3_erase_34 rfl (lv_at hl 0 rfl) ?_
      refine va_get (D := gD g) (ci := 3) (v := .ref (X 0)) (C := RX3) (T := TX3) (N := 12) hx hb hts iX3 hown hK.1 hP 0 rfl rfl 2 (by decide) f9 (fun _ h9 => h9) rfl dX3_erase_35 ?_
      refine lv_iload_n hx hb dX3_erase_38 rfl (lv_at hl 1 rfl) ?_
      refine lv_dup2_11 hx hb dX3_erase_39 rfl rfl ?_
      refine ld_I (k := k) (n := 12) (f := V 0) hx hb hK.1 hP 1 rfl (by omega) (by omega) dX3_erase_40 ?_
      refine lv_toI (z := nI (NN k)) (hVn) ?_
      refine lv_iconst (v := nI (1)) hx hb dX3_erase_41 (by decide +kernel) ?_
      refine lv_isub hx hb dX3_erase_42 ?_
      refine lv_toI (z := nI (NN k - 1)) (pk_sub (by omega)) ?_
      refine st_I (k := k) (n := 12) (f := V 0) (x := nI (NN k - 1)) hx hb hK.1 hP hD hS 1 rfl (by omega) (by omega) dX3_erase_43 (fun H locs hP hD hS => ?_)
      have hP : va_P (gD g) vwCl [(h, .inr (3, [.int (0), .int (nI lc), .ref (X 0), .ref (X 1), .int (nI ec), .ref (X 2), .ref (X 3), .ref (X 4), .ref (X 5), .ref (X 6), .ref (X 7), .ref (X 8)])), (X 0, .inl (gI g, 12, .inl (upd (V 0) (k) (nI (NN k - 1))))), (X 1, .inl (gI g, 480, .inl (V 1))), (X 2, .inl (gI g, 24, .inl (V 2))), (X 3, .inl (gI g, 24, .inl (V 3))), (X 4, .inl (gI g, 24, .inl (V 4))), (X 5, .inl (gI g, 192, .inl (V 5))), (X 6, .inl (gI g, 24, .inl (V 6))), (X 7, .inl (gI g, 24, .inl (V 7))), (X 8, .inl (gI g, 24, .inl (V 8)))] H := hP
      have hD : va_D A [(h, .inr (3, [.int (0), .int (nI lc), .ref (X 0), .ref (X 1), .int (nI ec), .ref (X 2), .ref (X 3), .ref (X 4), .ref (X 5), .ref (X 6), .ref (X 7), .ref (X 8)])), (X 0, .inl (gI g, 12, .inl (upd (V 0) (k) (nI (NN k - 1))))), (X 1, .inl (gI g, 480, .inl (V 1))), (X 2, .inl (gI g, 24, .inl (V 2))), (X 3, .inl (gI g, 24, .inl (V 3))), (X 4, .inl (gI g, 24, .inl (V 4))), (X 5, .inl (gI g, 192, .inl (V 5))), (X 6, .inl (gI g, 24, .inl (V 6))), (X 7, .inl (gI g, 24, .inl (V 7))), (X 8, .inl (gI g, 24, .inl (V 8)))] := hD
      refine lv_aload_n hx hb dX3_erase_44 rfl (lv_at hl 0 rfl) ?_
      refine lv_iload_n hx hb dX3_erase_45 rfl (lv_at hl 1 rfl) ?_
      refine lv_aload_n hx hb dX3_erase_46 rfl (lv_at hl 0 rfl) ?_
      refine va_get (D := gD g) (ci := 3) (v := .ref (X 0)) (C := RX3) (T := TX3) (N := 12) hx hb hts iX3 hown hK.1 hP 0 rfl rfl 2 (by decide) f9 (fun _ h9 => h9) rfl dX3_erase_47 ?_
      refine lv_iload_n hx hb dX3_erase_50 rfl (lv_at hl 1 rfl) ?_
      refine ld_I (k := k) (n := 12) (f := upd (V 0) (k) (nI (NN k - 1))) hx hb hK.1 hP 1 rfl (by omega) (by omega) dX3_erase_51 ?_
      refine lv_toI (z := nI (NN k - 1)) (upd_at _ _ _) ?_
      refine p_V (As := [.int (nI k), .int (nI (NN k - 1))]) (rest := []) S (c_X3_at l g h X (vup V 0 (upd (V 0) (k) (nI (NN k - 1)))) 0 lc ec (k) (NN k - 1) (by omega) (by omega)) (cwV 2 hts gX3_erase_X3_at rfl rfl rfl (by decide +kernel) ⟨Nat.le_of_ble_eq_true rfl, Nat.le_of_ble_eq_true rfl⟩) hK (va_recv hK.1 hP (ci := 3) (q0 := 0) rfl rfl) (hP) rfl hl.1 rfl (Nat.le_of_ble_eq_true rfl) dX3_erase_52 ⟨Nat.le_of_ble_eq_true rfl, Nat.le_of_ble_eq_true rfl⟩ ?_
      exact hret _ _ _ _ hP hS dX3_erase_55
    · omega
  · exact absurd c10 (by rw [hgk]; decide)

set_option maxHeartbeats 4000000 in
set_option maxRecDepth 100000 in
/-- erase_1 -/
theorem c_X3_erase_1 (l : Launch) (g : gT) (h : Nat) (X : Nat → Nat) (V : Nat → Nat → Int32) (th : Int32) (lc ec : Nat) (hlc : lc ≤ 12) (hec : ec ≤ 24) (x : Int32) (hxb : inB x lc = false) : wM g l yX3_erase wsX3_erase { frames := 2, cells := 0, slots := 0, locals := 43 } [.ref (h), .int (x)] (mdW g h X V th lc ec) (some (.int (0))) (mdW g h X V 1 lc ec) := by
  refine wr_ofI (cc := cX3_erase) (maxL := 2) (by decide) rfl (Nat.le_of_ble_eq_true rfl) ?_
  intro p e s m args below meth c H0 ls A Q hx hb hml hts hown hK hP hD hS hl hret
  have hl : lv_has ls 2 [(0, .ref (h)), (1, .int (x))] := hl
  have S : CallFix p m c cX3_erase 2 s args wsX3_erase RX3 := ⟨hx, hb, hml, hown, hts⟩
  have iX3 : ∀ w ∈ u_ws RX3 TX3 12, w ∈ wsX3_erase := by decide +kernel
  have f37 := hts (.fieldLink RX3 37 "LetterSealsModel" "thrown" "I") (by decide +kernel)
  obtain ⟨H, eH⟩ : ∃ H : Heap, H = H0 := ⟨_, rfl⟩
  rw [← eH] at hP ⊢
  have hS : va_S A H0 H [] := by rw [eH]; exact hS
  have hP : va_P (gD g) vwCl [(h, .inr (3, [.int (th), .int (nI lc), .ref (X 0), .ref (X 1), .int (nI ec), .ref (X 2), .ref (X 3), .ref (X 4), .ref (X 5), .ref (X 6), .ref (X 7), .ref (X 8)])), (X 0, .inl (gI g, 12, .inl (V 0))), (X 1, .inl (gI g, 480, .inl (V 1))), (X 2, .inl (gI g, 24, .inl (V 2))), (X 3, .inl (gI g, 24, .inl (V 3))), (X 4, .inl (gI g, 24, .inl (V 4))), (X 5, .inl (gI g, 192, .inl (V 5))), (X 6, .inl (gI g, 24, .inl (V 6))), (X 7, .inl (gI g, 24, .inl (V 7))), (X 8, .inl (gI g, 24, .inl (V 8)))] H := hP
  have hD : va_D A [(h, .inr (3, [.int (th), .int (nI lc), .ref (X 0), .ref (X 1), .int (nI ec), .ref (X 2), .ref (X 3), .ref (X 4), .ref (X 5), .ref (X 6), .ref (X 7), .ref (X 8)])), (X 0, .inl (gI g, 12, .inl (V 0))), (X 1, .inl (gI g, 480, .inl (V 1))), (X 2, .inl (gI g, 24, .inl (V 2))), (X 3, .inl (gI g, 24, .inl (V 3))), (X 4, .inl (gI g, 24, .inl (V 4))), (X 5, .inl (gI g, 192, .inl (V 5))), (X 6, .inl (gI g, 24, .inl (V 6))), (X 7, .inl (gI g, 24, .inl (V 7))), (X 8, .inl (gI g, 24, .inl (V 8)))] := hD
  refine lv_aload_n hx hb dX3_erase_0 rfl (lv_at hl 0 rfl) ?_
  refine lv_iconst (v := 0) hx hb dX3_erase_1 (by decide +kernel) ?_
  refine va_put (D := gD g) (ci := 3) (v := .int (0)) (ty := .int) (C := RX3) (T := TX3) (N := 12) hx hb hts iX3 tyX3 tyX3_ok nmX3 hown hK.1 hP hD hS 0 rfl rfl 0 (by decide) f37 (fun _ h9 => h9) rfl (by decide +kernel) rfl rfl (Nat.le_of_ble_eq_true rfl) dX3_erase_2 (fun H locs hP hD hS => ?_)
  have hP : va_P (gD g) vwCl [(h, .inr (3, [.int (0), .int (nI lc), .ref (X 0), .ref (X 1), .int (nI ec), .ref (X 2), .ref (X 3), .ref (X 4), .ref (X 5), .ref (X 6), .ref (X 7), .ref (X 8)])), (X 0, .inl (gI g, 12, .inl (V 0))), (X 1, .inl (gI g, 480, .inl (V 1))), (X 2, .inl (gI g, 24, .inl (V 2))), (X 3, .inl (gI g, 24, .inl (V 3))), (X 4, .inl (gI g, 24, .inl (V 4))), (X 5, .inl (gI g, 192, .inl (V 5))), (X 6, .inl (gI g, 24, .inl (V 6))), (X 7, .inl (gI g, 24, .inl (V 7))), (X 8, .inl (gI g, 24, .inl (V 8)))] H := hP
  have hD : va_D A [(h, .inr (3, [.int (0), .int (nI lc), .ref (X 0), .ref (X 1), .int (nI ec), .ref (X 2), .ref (X 3), .ref (X 4), .ref (X 5), .ref (X 6), .ref (X 7), .ref (X 8)])), (X 0, .inl (gI g, 12, .inl (V 0))), (X 1, .inl (gI g, 480, .inl (V 1))), (X 2, .inl (gI g, 24, .inl (V 2))), (X 3, .inl (gI g, 24, .inl (V 3))), (X 4, .inl (gI g, 24, .inl (V 4))), (X 5, .inl (gI g, 192, .inl (V 5))), (X 6, .inl (gI g, 24, .inl (V 6))), (X 7, .inl (gI g, 24, .inl (V 7))), (X 8, .inl (gI g, 24, .inl (V 8)))] := hD
  refine lv_aload_n hx hb dX3_erase_5 rfl (lv_at hl 0 rfl) ?_
  refine lv_iload_n hx hb dX3_erase_6 rfl (lv_at hl 1 rfl) ?_
  refine p_V (As := [.int (x)]) (rest := []) S (c_X3_isLetter l g h X V 0 lc ec (x) hlc hec) (cwV 1 hts gX3_erase_X3_isLetter rfl rfl rfl (by decide +kernel) ⟨Nat.le_of_ble_eq_true rfl, Nat.le_of_ble_eq_true rfl⟩) hK (va_recv hK.1 hP (ci := 3) (q0 := 0) rfl rfl) (hP) rfl hl.1 rfl (Nat.le_of_ble_eq_true rfl) dX3_erase_7 ⟨Nat.le_of_ble_eq_true rfl, Nat.le_of_ble_eq_true rfl⟩ ?_
  refine br_neB (tgt := 19) hx hb dX3_erase_10 (by decide) (fun c10 => ?_) (fun c10 => ?_)
  · exact absurd c10 (by rw [hxb]; decide)
  · refine lv_aload_n hx hb dX3_erase_13 rfl (lv_at hl 0 rfl) ?_
    refine lv_iconst (v := 1) hx hb dX3_erase_14 (by decide +kernel) ?_
    refine w_V (As := [.int (1)]) (rest := []) S (c_X3_no l g h X V 0 lc ec (1)) (cwV 1 hts gX3_erase_X3_no rfl rfl rfl (by decide +kernel) ⟨Nat.le_of_ble_eq_true rfl, Nat.le_of_ble_eq_true rfl⟩) hK (va_recv hK.1 hP (ci := 3) (q0 := 0) rfl rfl) hP (hD.weaken (fun _ _ _ _ => trivial)) hS (wA_D hD [0, 1, 2, 3, 4, 5, 6, 7, 8, 9] rfl) rfl hl.1 rfl (Nat.le_of_ble_eq_true rfl) dX3_erase_15 ⟨Nat.le_of_ble_eq_true rfl, Nat.le_of_ble_eq_true rfl⟩ (fun H locs hP1 hz1 hk1 hS => ?_)
    have hP : va_P (gD g) vwCl [(h, .inr (3, [.int (1), .int (nI lc), .ref (X 0), .ref (X 1), .int (nI ec), .ref (X 2), .ref (X 3), .ref (X 4), .ref (X 5), .ref (X 6), .ref (X 7), .ref (X 8)])), (X 0, .inl (gI g, 12, .inl (V 0))), (X 1, .inl (gI g, 480, .inl (V 1))), (X 2, .inl (gI g, 24, .inl (V 2))), (X 3, .inl (gI g, 24, .inl (V 3))), (X 4, .inl (gI g, 24, .inl (V 4))), (X 5, .inl (gI g, 192, .inl (V 5))), (X 6, .inl (gI g, 24, .inl (V 6))), (X 7, .inl (gI g, 24, .inl (V 7))), (X 8, .inl (gI g, 24, .inl (V 8)))] H := hP1
    have hD : va_D A [(h, .inr (3, [.int (1), .int (nI lc), .ref (X 0), .ref (X 1), .int (nI ec), .ref (X 2), .ref (X 3), .ref (X 4), .ref (X 5), .ref (X 6), .ref (X 7), .ref (X 8)])), (X 0, .inl (gI g, 12, .inl (V 0))), (X 1, .inl (gI g, 480, .inl (V 1))), (X 2, .inl (gI g, 24, .inl (V 2))), (X 3, .inl (gI g, 24, .inl (V 3))), (X 4, .inl (gI g, 24, .inl (V 4))), (X 5, .inl (gI g, 192, .inl (V 5))), (X 6, .inl (gI g, 24, .inl (V 6))), (X 7, .inl (gI g, 24, .inl (V 7))), (X 8, .inl (gI g, 24, .inl (V 8)))] := D_same hD rfl
    exact hret _ _ _ _ hP hS dX3_erase_18

set_option maxHeartbeats 4000000 in
set_option maxRecDepth 100000 in
/-- erase_2 -/
theorem c_X3_erase_2 (l : Launch) (g : gT) (h : Nat) (X : Nat → Nat) (V : Nat → Nat → Int32) (th : Int32) (lc ec : Nat) (NN : Nat → Nat) (hlc : lc ≤ 12) (hec : ec ≤ 24) (hNN : ∀ i, i < lc → V 0 i = nI (NN i) ∧ NN i ≤ 40) (k : Nat) (hk : k < lc) (hn1 : NN k = 0) : wM g l yX3_erase wsX3_erase { frames := 2, cells := 0, slots := 0, locals := 43 } [.ref (h), .int (nI k)] (mdW g h X V th lc ec) (some (.int (0))) (mdW g h X V 2 lc ec) := by
  refine wr_ofI (cc := cX3_erase) (maxL := 2) (by decide) rfl (Nat.le_of_ble_eq_true rfl) ?_
  intro p e s m args below meth c H0 ls A Q hx hb hml hts hown hK hP hD hS hl hret
  have hl : lv_has ls 2 [(0, .ref (h)), (1, .int (nI k))] := hl
  have S : CallFix p m c cX3_erase 2 s args wsX3_erase RX3 := ⟨hx, hb, hml, hown, hts⟩
  have hgk : inB (nI k) lc = true := inB_nI hk (by omega)
  have hVn := (hNN k hk).1
  have hn := (hNN k hk).2
  have iX3 : ∀ w ∈ u_ws RX3 TX3 12, w ∈ wsX3_erase := by decide +kernel
  have f9 := hts (.fieldLink RX3 9 "LetterSealsModel" "many" "[I") (by decide +kernel)
  have f37 := hts (.fieldLink RX3 37 "LetterSealsModel" "thrown" "I") (by decide +kernel)
  obtain ⟨H, eH⟩ : ∃ H : Heap, H = H0 := ⟨_, rfl⟩
  rw [← eH] at hP ⊢
  have hS : va_S A H0 H [] := by rw [eH]; exact hS
  have hP : va_P (gD g) vwCl [(h, .inr (3, [.int (th), .int (nI lc), .ref (X 0), .ref (X 1), .int (nI ec), .ref (X 2), .ref (X 3), .ref (X 4), .ref (X 5), .ref (X 6), .ref (X 7), .ref (X 8)])), (X 0, .inl (gI g, 12, .inl (V 0))), (X 1, .inl (gI g, 480, .inl (V 1))), (X 2, .inl (gI g, 24, .inl (V 2))), (X 3, .inl (gI g, 24, .inl (V 3))), (X 4, .inl (gI g, 24, .inl (V 4))), (X 5, .inl (gI g, 192, .inl (V 5))), (X 6, .inl (gI g, 24, .inl (V 6))), (X 7, .inl (gI g, 24, .inl (V 7))), (X 8, .inl (gI g, 24, .inl (V 8)))] H := hP
  have hD : va_D A [(h, .inr (3, [.int (th), .int (nI lc), .ref (X 0), .ref (X 1), .int (nI ec), .ref (X 2), .ref (X 3), .ref (X 4), .ref (X 5), .ref (X 6), .ref (X 7), .ref (X 8)])), (X 0, .inl (gI g, 12, .inl (V 0))), (X 1, .inl (gI g, 480, .inl (V 1))), (X 2, .inl (gI g, 24, .inl (V 2))), (X 3, .inl (gI g, 24, .inl (V 3))), (X 4, .inl (gI g, 24, .inl (V 4))), (X 5, .inl (gI g, 192, .inl (V 5))), (X 6, .inl (gI g, 24, .inl (V 6))), (X 7, .inl (gI g, 24, .inl (V 7))), (X 8, .inl (gI g, 24, .inl (V 8)))] := hD
  refine lv_aload_n hx hb dX3_erase_0 rfl (lv_at hl 0 rfl) ?_
  refine lv_iconst (v := 0) hx hb dX3_erase_1 (by decide +kernel) ?_
  refine va_put (D := gD g) (ci := 3) (v := .int (0)) (ty := .int) (C := RX3) (T := TX3) (N := 12) hx hb hts iX3 tyX3 tyX3_ok nmX3 hown hK.1 hP hD hS 0 rfl rfl 0 (by decide) f37 (fun _ h9 => h9) rfl (by decide +kernel) rfl rfl (Nat.le_of_ble_eq_true rfl) dX3_erase_2 (fun H locs hP hD hS => ?_)
  have hP : va_P (gD g) vwCl [(h, .inr (3, [.int (0), .int (nI lc), .ref (X 0), .ref (X 1), .int (nI ec), .ref (X 2), .ref (X 3), .ref (X 4), .ref (X 5), .ref (X 6), .ref (X 7), .ref (X 8)])), (X 0, .inl (gI g, 12, .inl (V 0))), (X 1, .inl (gI g, 480, .inl (V 1))), (X 2, .inl (gI g, 24, .inl (V 2))), (X 3, .inl (gI g, 24, .inl (V 3))), (X 4, .inl (gI g, 24, .inl (V 4))), (X 5, .inl (gI g, 192, .inl (V 5))), (X 6, .inl (gI g, 24, .inl (V 6))), (X 7, .inl (gI g, 24, .inl (V 7))), (X 8, .inl (gI g, 24, .inl (V 8)))] H := hP
  have hD : va_D A [(h, .inr (3, [.int (0), .int (nI lc), .ref (X 0), .ref (X 1), .int (nI ec), .ref (X 2), .ref (X 3), .ref (X 4), .ref (X 5), .ref (X 6), .ref (X 7), .ref (X 8)])), (X 0, .inl (gI g, 12, .inl (V 0))), (X 1, .inl (gI g, 480, .inl (V 1))), (X 2, .inl (gI g, 24, .inl (V 2))), (X 3, .inl (gI g, 24, .inl (V 3))), (X 4, .inl (gI g, 24, .inl (V 4))), (X 5, .inl (gI g, 192, .inl (V 5))), (X 6, .inl (gI g, 24, .inl (V 6))), (X 7, .inl (gI g, 24, .inl (V 7))), (X 8, .inl (gI g, 24, .inl (V 8)))] := hD
  refine lv_aload_n hx hb dX3_erase_5 rfl (lv_at hl 0 rfl) ?_
  refine lv_iload_n hx hb dX3_erase_6 rfl (lv_at hl 1 rfl) ?_
  refine p_V (As := [.int (nI k)]) (rest := []) S (c_X3_isLetter l g h X V 0 lc ec (nI k) hlc hec) (cwV 1 hts gX3_erase_X3_isLetter rfl rfl rfl (by decide +kernel) ⟨Nat.le_of_ble_eq_true rfl, Nat.le_of_ble_eq_true rfl⟩) hK (va_recv hK.1 hP (ci := 3) (q0 := 0) rfl rfl) (hP) rfl hl.1 rfl (Nat.le_of_ble_eq_true rfl) dX3_erase_7 ⟨Nat.le_of_ble_eq_true rfl, Nat.le_of_ble_eq_true rfl⟩ ?_
  refine br_neB (tgt := 19) hx hb dX3_erase_10 (by decide) (fun c10 => ?_) (fun c10 => ?_)
  · refine lv_aload_n hx hb dX3_erase_19 rfl (lv_at hl 0 rfl) ?_
    refine va_get (D := gD g) (ci := 3) (v := .ref (X 0)) (C := RX3) (T := TX3) (N := 12) hx hb hts iX3 hown hK.1 hP 0 rfl rfl 2 (by decide) f9 (fun _ h9 => h9) rfl dX3_erase_20 ?_
    refine lv_iload_n hx hb dX3_erase_23 rfl (lv_at hl 1 rfl) ?_
    refine ld_I (k := k) (n := 12) (f := V 0) hx hb hK.1 hP 1 rfl (by omega) (by omega) dX3_erase_24 ?_
    refine lv_toI (z := nI (NN k)) (hVn) ?_
    refine br_ne0 (a := NN k) (tgt := 34) hx hb (by omega) dX3_erase_25 (by decide) (fun c25 => ?_) (fun c25 => ?_)
    · omega
    · refine lv_aload_n hx hb dX3_erase_28 rfl (lv_at hl 0 rfl) ?_
      refine lv_iconst (v := 2) hx hb dX3_erase_29 (by decide +kernel) ?_
      refine w_V (As := [.int (2)]) (rest := []) S (c_X3_no l g h X V 0 lc ec (2)) (cwV 1 hts gX3_erase_X3_no rfl rfl rfl (by decide +kernel) ⟨Nat.le_of_ble_eq_true rfl, Nat.le_of_ble_eq_true rfl⟩) hK (va_recv hK.1 hP (ci := 3) (q0 := 0) rfl rfl) hP (hD.weaken (fun _ _ _ _ => trivial)) hS (wA_D hD [0, 1, 2, 3, 4, 5, 6, 7, 8, 9] rfl) rfl hl.1 rfl (Nat.le_of_ble_eq_true rfl) dX3_erase_30 ⟨Nat.le_of_ble_eq_true rfl, Nat.le_of_ble_eq_true rfl⟩ (fun H locs hP1 hz1 hk1 hS => ?_)
      have hP : va_P (gD g) vwCl [(h, .inr (3, [.int (2), .int (nI lc), .ref (X 0), .ref (X 1), .int (nI ec), .ref (X 2), .ref (X 3), .ref (X 4), .ref (X 5), .ref (X 6), .ref (X 7), .ref (X 8)])), (X 0, .inl (gI g, 12, .inl (V 0))), (X 1, .inl (gI g, 480, .inl (V 1))), (X 2, .inl (gI g, 24, .inl (V 2))), (X 3, .inl (gI g, 24, .inl (V 3))), (X 4, .inl (gI g, 24, .inl (V 4))), (X 5, .inl (gI g, 192, .inl (V 5))), (X 6, .inl (gI g, 24, .inl (V 6))), (X 7, .inl (gI g, 24, .inl (V 7))), (X 8, .inl (gI g, 24, .inl (V 8)))] H := hP1
      have hD : va_D A [(h, .inr (3, [.int (2), .int (nI lc), .ref (X 0), .ref (X 1), .int (nI ec), .ref (X 2), .ref (X 3), .ref (X 4), .ref (X 5), .ref (X 6), .ref (X 7), .ref (X 8)])), (X 0, .inl (gI g, 12, .inl (V 0))), (X 1, .inl (gI g, 480, .inl (V 1))), (X 2, .inl (gI g, 24, .inl (V 2))), (X 3, .inl (gI g, 24, .inl (V 3))), (X 4, .inl (gI g, 24, .inl (V 4))), (X 5, .inl (gI g, 192, .inl (V 5))), (X 6, .inl (gI g, 24, .inl (V 6))), (X 7, .inl (gI g, 24, .inl (V 7))), (X 8, .inl (gI g, 24, .inl (V 8)))] := D_same hD rfl
      exact hret _ _ _ _ hP hS dX3_erase_33
  · exact absurd c10 (by rw [hgk]; decide)

set_option maxHeartbeats 4000000 in
set_option maxRecDepth 100000 in
/-- changed -/
theorem c_X3_changed (l : Launch) (g : gT) (h : Nat) (X : Nat → Nat) (V : Nat → Nat → Int32) (th : Int32) (lc ec : Nat) (NN : Nat → Nat) (hlc : lc ≤ 12) (hec : ec ≤ 24) (hNN : ∀ i, i < lc → V 0 i = nI (NN i) ∧ NN i ≤ 40) (k : Nat) (hk : k < lc) (j : Nat) (hj : j < NN k) (z : Int32) (hz : ¬ V 1 (40 * k + j) = z) : wM g l yX3_changed wsX3_changed { frames := 3, cells := 0, slots := 0, locals := 65 } [.ref (h), .int (nI k), .int (nI j), .int (z)] (mdW g h X V th lc ec) (some (.int (V 1 (40 * k + j)))) (mdW g h X (vup V 1 (upd (V 1) (40 * k + j) z)) 0 lc ec) := by
  refine wr_ofI (cc := cX3_changed) (maxL := 5) (by decide) rfl (Nat.le_of_ble_eq_true rfl) ?_
  intro p e s m args below meth c H0 ls A Q hx hb hml hts hown hK hP hD hS hl hret
  have hl : lv_has ls 5 [(0, .ref (h)), (1, .int (nI k)), (2, .int (nI j)), (3, .int (z))] := hl
  have S : CallFix p m c cX3_changed 5 s args wsX3_changed RX3 := ⟨hx, hb, hml, hown, hts⟩
  have hgk : inB (nI k) lc = true := inB_nI hk (by omega)
  have hVn := (hNN k hk).1
  have hn := (hNN k hk).2
  have hgj : inB (nI j) (NN k) = true := inB_nI hj (by omega)
  have iX3 : ∀ w ∈ u_ws RX3 TX3 12, w ∈ wsX3_changed := by decide +kernel
  have f13 := hts (.fieldLink RX3 13 "LetterSealsModel" "sign" "[I") (by decide +kernel)
  have f37 := hts (.fieldLink RX3 37 "LetterSealsModel" "thrown" "I") (by decide +kernel)
  obtain ⟨H, eH⟩ : ∃ H : Heap, H = H0 := ⟨_, rfl⟩
  rw [← eH] at hP ⊢
  have hS : va_S A H0 H [] := by rw [eH]; exact hS
  have hP : va_P (gD g) vwCl [(h, .inr (3, [.int (th), .int (nI lc), .ref (X 0), .ref (X 1), .int (nI ec), .ref (X 2), .ref (X 3), .ref (X 4), .ref (X 5), .ref (X 6), .ref (X 7), .ref (X 8)])), (X 0, .inl (gI g, 12, .inl (V 0))), (X 1, .inl (gI g, 480, .inl (V 1))), (X 2, .inl (gI g, 24, .inl (V 2))), (X 3, .inl (gI g, 24, .inl (V 3))), (X 4, .inl (gI g, 24, .inl (V 4))), (X 5, .inl (gI g, 192, .inl (V 5))), (X 6, .inl (gI g, 24, .inl (V 6))), (X 7, .inl (gI g, 24, .inl (V 7))), (X 8, .inl (gI g, 24, .inl (V 8)))] H := hP
  have hD : va_D A [(h, .inr (3, [.int (th), .int (nI lc), .ref (X 0), .ref (X 1), .int (nI ec), .ref (X 2), .ref (X 3), .ref (X 4), .ref (X 5), .ref (X 6), .ref (X 7), .ref (X 8)])), (X 0, .inl (gI g, 12, .inl (V 0))), (X 1, .inl (gI g, 480, .inl (V 1))), (X 2, .inl (gI g, 24, .inl (V 2))), (X 3, .inl (gI g, 24, .inl (V 3))), (X 4, .inl (gI g, 24, .inl (V 4))), (X 5, .inl (gI g, 192, .inl (V 5))), (X 6, .inl (gI g, 24, .inl (V 6))), (X 7, .inl (gI g, 24, .inl (V 7))), (X 8, .inl (gI g, 24, .inl (V 8)))] := hD
  refine lv_aload_n hx hb dX3_changed_0 rfl (lv_at hl 0 rfl) ?_
  refine lv_iconst (v := 0) hx hb dX3_changed_1 (by decide +kernel) ?_
  refine va_put (D := gD g) (ci := 3) (v := .int (0)) (ty := .int) (C := RX3) (T := TX3) (N := 12) hx hb hts iX3 tyX3 tyX3_ok nmX3 hown hK.1 hP hD hS 0 rfl rfl 0 (by decide) f37 (fun _ h9 => h9) rfl (by decide +kernel) rfl rfl (Nat.le_of_ble_eq_true rfl) dX3_changed_2 (fun H locs hP hD hS => ?_)
  have hP : va_P (gD g) vwCl [(h, .inr (3, [.int (0), .int (nI lc), .ref (X 0), .ref (X 1), .int (nI ec), .ref (X 2), .ref (X 3), .ref (X 4), .ref (X 5), .ref (X 6), .ref (X 7), .ref (X 8)])), (X 0, .inl (gI g, 12, .inl (V 0))), (X 1, .inl (gI g, 480, .inl (V 1))), (X 2, .inl (gI g, 24, .inl (V 2))), (X 3, .inl (gI g, 24, .inl (V 3))), (X 4, .inl (gI g, 24, .inl (V 4))), (X 5, .inl (gI g, 192, .inl (V 5))), (X 6, .inl (gI g, 24, .inl (V 6))), (X 7, .inl (gI g, 24, .inl (V 7))), (X 8, .inl (gI g, 24, .inl (V 8)))] H := hP
  have hD : va_D A [(h, .inr (3, [.int (0), .int (nI lc), .ref (X 0), .ref (X 1), .int (nI ec), .ref (X 2), .ref (X 3), .ref (X 4), .ref (X 5), .ref (X 6), .ref (X 7), .ref (X 8)])), (X 0, .inl (gI g, 12, .inl (V 0))), (X 1, .inl (gI g, 480, .inl (V 1))), (X 2, .inl (gI g, 24, .inl (V 2))), (X 3, .inl (gI g, 24, .inl (V 3))), (X 4, .inl (gI g, 24, .inl (V 4))), (X 5, .inl (gI g, 192, .inl (V 5))), (X 6, .inl (gI g, 24, .inl (V 6))), (X 7, .inl (gI g, 24, .inl (V 7))), (X 8, .inl (gI g, 24, .inl (V 8)))] := hD
  refine lv_aload_n hx hb dX3_changed_5 rfl (lv_at hl 0 rfl) ?_
  refine lv_iload_n hx hb dX3_changed_6 rfl (lv_at hl 1 rfl) ?_
  refine lv_iload_n hx hb dX3_changed_7 rfl (lv_at hl 2 rfl) ?_
  refine p_V (As := [.int (nI k), .int (nI j)]) (rest := []) S (c_X3_isPlace l g h X V 0 lc ec NN hlc hec hNN k hk (nI j)) (cwV 2 hts gX3_changed_X3_isPlace rfl rfl rfl (by decide +kernel) ⟨Nat.le_of_ble_eq_true rfl, Nat.le_of_ble_eq_true rfl⟩) hK (va_recv hK.1 hP (ci := 3) (q0 := 0) rfl rfl) (hP) rfl hl.1 rfl (Nat.le_of_ble_eq_true rfl) dX3_changed_8 ⟨Nat.le_of_ble_eq_true rfl, Nat.le_of_ble_eq_true rfl⟩ ?_
  refine br_neB (tgt := 20) hx hb dX3_changed_11 (by decide) (fun c11 => ?_) (fun c11 => ?_)
  · refine lv_aload_n hx hb dX3_changed_20 rfl (lv_at hl 0 rfl) ?_
    refine lv_iload_n hx hb dX3_changed_21 rfl (lv_at hl 1 rfl) ?_
    refine lv_iload_n hx hb dX3_changed_22 rfl (lv_at hl 2 rfl) ?_
    refine p_V (As := [.int (nI k), .int (nI j)]) (rest := []) S (c_X3_at l g h X V 0 lc ec (k) (j) (by omega) (by omega)) (cwV 2 hts gX3_changed_X3_at rfl rfl rfl (by decide +kernel) ⟨Nat.le_of_ble_eq_true rfl, Nat.le_of_ble_eq_true rfl⟩) hK (va_recv hK.1 hP (ci := 3) (q0 := 0) rfl rfl) (hP) rfl hl.1 rfl (Nat.le_of_ble_eq_true rfl) dX3_changed_23 ⟨Nat.le_of_ble_eq_true rfl, Nat.le_of_ble_eq_true rfl⟩ ?_
    refine lv_istore (lv' := [(4, .int ((V 1) (40 * k + j))), (0, .ref (h)), (1, .int (nI k)), (2, .int (nI j)), (3, .int (z))]) hx hb dX3_changed_26 hl (by decide) rfl (fun ls hl => ?_)
    refine lv_iload hx hb dX3_changed_28 (lv_at hl 0 rfl) ?_
    refine lv_iload_n hx hb dX3_changed_30 rfl (lv_at hl 4 rfl) ?_
    refine lv_icmp_ne (tgt := 40) hx hb dX3_changed_31 (by decide) (fun c31 => ?_) (fun c31 => ?_)
    · refine lv_aload_n hx hb dX3_changed_40 rfl (lv_at hl 1 rfl) ?_
      refine va_get (D := gD g) (ci := 3) (v := .ref (X 1)) (C := RX3) (T := TX3) (N := 12) hx hb hts iX3 hown hK.1 hP 0 rfl rfl 3 (by decide) f13 (fun _ h9 => h9) rfl dX3_changed_41 ?_
      refine lv_bipush (v := nI (40)) hx hb dX3_changed_44 (by decide +kernel) ?_
      refine lv_iload_n hx hb dX3_changed_46 rfl (lv_at hl 2 rfl) ?_
      refine lv_imul hx hb dX3_changed_47 ?_
      refine lv_toI (z := nI (40 * k)) (pk_mul _ _) ?_
      refine lv_iload_n hx hb dX3_changed_48 rfl (lv_at hl 3 rfl) ?_
      refine lv_iadd hx hb dX3_changed_49 ?_
      refine lv_toI (z := nI (40 * k + j)) (nI_add _ _) ?_
      refine lv_iload_n hx hb dX3_changed_50 rfl (lv_at hl 4 rfl) ?_
      refine st_I (k := 40 * k + j) (n := 480) (f := V 1) (x := z) hx hb hK.1 hP hD hS 2 rfl (by omega) (by omega) dX3_changed_51 (fun H locs hP hD hS => ?_)
      have hP : va_P (gD g) vwCl [(h, .inr (3, [.int (0), .int (nI lc), .ref (X 0), .ref (X 1), .int (nI ec), .ref (X 2), .ref (X 3), .ref (X 4), .ref (X 5), .ref (X 6), .ref (X 7), .ref (X 8)])), (X 0, .inl (gI g, 12, .inl (V 0))), (X 1, .inl (gI g, 480, .inl (upd (V 1) (40 * k + j) (z)))), (X 2, .inl (gI g, 24, .inl (V 2))), (X 3, .inl (gI g, 24, .inl (V 3))), (X 4, .inl (gI g, 24, .inl (V 4))), (X 5, .inl (gI g, 192, .inl (V 5))), (X 6, .inl (gI g, 24, .inl (V 6))), (X 7, .inl (gI g, 24, .inl (V 7))), (X 8, .inl (gI g, 24, .inl (V 8)))] H := hP
      have hD : va_D A [(h, .inr (3, [.int (0), .int (nI lc), .ref (X 0), .ref (X 1), .int (nI ec), .ref (X 2), .ref (X 3), .ref (X 4), .ref (X 5), .ref (X 6), .ref (X 7), .ref (X 8)])), (X 0, .inl (gI g, 12, .inl (V 0))), (X 1, .inl (gI g, 480, .inl (upd (V 1) (40 * k + j) (z)))), (X 2, .inl (gI g, 24, .inl (V 2))), (X 3, .inl (gI g, 24, .inl (V 3))), (X 4, .inl (gI g, 24, .inl (V 4))), (X 5, .inl (gI g, 192, .inl (V 5))), (X 6, .inl (gI g, 24, .inl (V 6))), (X 7, .inl (gI g, 24, .inl (V 7))), (X 8, .inl (gI g, 24, .inl (V 8)))] := hD
      refine lv_iload hx hb dX3_changed_52 (lv_at hl 0 rfl) ?_
      exact hret _ _ _ _ hP hS dX3_changed_54
    · exact absurd c31 hz
  · exact absurd c11 (by rw [hgj]; decide)

set_option maxHeartbeats 4000000 in
set_option maxRecDepth 100000 in
/-- forge -/
theorem c_X3_forge (l : Launch) (g : gT) (h : Nat) (X : Nat → Nat) (V : Nat → Nat → Int32) (th : Int32) (lc ec : Nat) (NN : Nat → Nat) (hlc : lc ≤ 12) (hec : ec ≤ 24) (hNN : ∀ i, i < lc → V 0 i = nI (NN i) ∧ NN i ≤ 40) (k : Nat) (hk : k < lc) (j : Nat) (hj : j < NN k) (hz : ¬ V 1 (40 * k + j) = 27) : wM g l yX3_forge wsX3_forge { frames := 4, cells := 0, slots := 0, locals := 89 } [.ref (h), .int (nI k), .int (nI j)] (mdW g h X V th lc ec) (some (.int (V 1 (40 * k + j)))) (mdW g h X (vup V 1 (upd (V 1) (40 * k + j) 27)) 0 lc ec) := by
  refine wr_ofI (cc := cX3_forge) (maxL := 3) (by decide) rfl (Nat.le_of_ble_eq_true rfl) ?_
  intro p e s m args below meth c H0 ls A Q hx hb hml hts hown hK hP hD hS hl hret
  have hl : lv_has ls 3 [(0, .ref (h)), (1, .int (nI k)), (2, .int (nI j))] := hl
  have S : CallFix p m c cX3_forge 3 s args wsX3_forge RX3 := ⟨hx, hb, hml, hown, hts⟩
  obtain ⟨H, eH⟩ : ∃ H : Heap, H = H0 := ⟨_, rfl⟩
  rw [← eH] at hP ⊢
  have hS : va_S A H0 H [] := by rw [eH]; exact hS
  have hP : va_P (gD g) vwCl [(h, .inr (3, [.int (th), .int (nI lc), .ref (X 0), .ref (X 1), .int (nI ec), .ref (X 2), .ref (X 3), .ref (X 4), .ref (X 5), .ref (X 6), .ref (X 7), .ref (X 8)])), (X 0, .inl (gI g, 12, .inl (V 0))), (X 1, .inl (gI g, 480, .inl (V 1))), (X 2, .inl (gI g, 24, .inl (V 2))), (X 3, .inl (gI g, 24, .inl (V 3))), (X 4, .inl (gI g, 24, .inl (V 4))), (X 5, .inl (gI g, 192, .inl (V 5))), (X 6, .inl (gI g, 24, .inl (V 6))), (X 7, .inl (gI g, 24, .inl (V 7))), (X 8, .inl (gI g, 24, .inl (V 8)))] H := hP
  have hD : va_D A [(h, .inr (3, [.int (th), .int (nI lc), .ref (X 0), .ref (X 1), .int (nI ec), .ref (X 2), .ref (X 3), .ref (X 4), .ref (X 5), .ref (X 6), .ref (X 7), .ref (X 8)])), (X 0, .inl (gI g, 12, .inl (V 0))), (X 1, .inl (gI g, 480, .inl (V 1))), (X 2, .inl (gI g, 24, .inl (V 2))), (X 3, .inl (gI g, 24, .inl (V 3))), (X 4, .inl (gI g, 24, .inl (V 4))), (X 5, .inl (gI g, 192, .inl (V 5))), (X 6, .inl (gI g, 24, .inl (V 6))), (X 7, .inl (gI g, 24, .inl (V 7))), (X 8, .inl (gI g, 24, .inl (V 8)))] := hD
  refine lv_aload_n hx hb dX3_forge_0 rfl (lv_at hl 0 rfl) ?_
  refine lv_iload_n hx hb dX3_forge_1 rfl (lv_at hl 1 rfl) ?_
  refine lv_iload_n hx hb dX3_forge_2 rfl (lv_at hl 2 rfl) ?_
  refine lv_bipush (v := 27) hx hb dX3_forge_3 (by decide +kernel) ?_
  refine w_V (As := [.int (nI k), .int (nI j), .int (27)]) (rest := []) S (c_X3_changed l g h X V th lc ec NN hlc hec hNN k hk j hj 27 hz) (cwV 3 hts gX3_forge_X3_changed rfl rfl rfl (by decide +kernel) ⟨Nat.le_of_ble_eq_true rfl, Nat.le_of_ble_eq_true rfl⟩) hK (va_recv hK.1 hP (ci := 3) (q0 := 0) rfl rfl) hP (hD.weaken (fun _ _ _ _ => trivial)) hS (wA_D hD [0, 1, 2, 3, 4, 5, 6, 7, 8, 9] rfl) rfl hl.1 rfl (Nat.le_of_ble_eq_true rfl) dX3_forge_5 ⟨Nat.le_of_ble_eq_true rfl, Nat.le_of_ble_eq_true rfl⟩ (fun H locs hP1 hz1 hk1 hS => ?_)
  have hP : va_P (gD g) vwCl [(h, .inr (3, [.int (0), .int (nI lc), .ref (X 0), .ref (X 1), .int (nI ec), .ref (X 2), .ref (X 3), .ref (X 4), .ref (X 5), .ref (X 6), .ref (X 7), .ref (X 8)])), (X 0, .inl (gI g, 12, .inl (V 0))), (X 1, .inl (gI g, 480, .inl (upd (V 1) (40 * k + j) 27))), (X 2, .inl (gI g, 24, .inl (V 2))), (X 3, .inl (gI g, 24, .inl (V 3))), (X 4, .inl (gI g, 24, .inl (V 4))), (X 5, .inl (gI g, 192, .inl (V 5))), (X 6, .inl (gI g, 24, .inl (V 6))), (X 7, .inl (gI g, 24, .inl (V 7))), (X 8, .inl (gI g, 24, .inl (V 8)))] H := hP1
  have hD : va_D A [(h, .inr (3, [.int (0), .int (nI lc), .ref (X 0), .ref (X 1), .int (nI ec), .ref (X 2), .ref (X 3), .ref (X 4), .ref (X 5), .ref (X 6), .ref (X 7), .ref (X 8)])), (X 0, .inl (gI g, 12, .inl (V 0))), (X 1, .inl (gI g, 480, .inl (upd (V 1) (40 * k + j) 27))), (X 2, .inl (gI g, 24, .inl (V 2))), (X 3, .inl (gI g, 24, .inl (V 3))), (X 4, .inl (gI g, 24, .inl (V 4))), (X 5, .inl (gI g, 192, .inl (V 5))), (X 6, .inl (gI g, 24, .inl (V 6))), (X 7, .inl (gI g, 24, .inl (V 7))), (X 8, .inl (gI g, 24, .inl (V 8)))] := D_same hD rfl
  exact hret _ _ _ _ hP hS dX3_forge_8

set_option maxHeartbeats 4000000 in
set_option maxRecDepth 100000 in
/-- tear -/
theorem c_X3_tear (l : Launch) (g : gT) (h : Nat) (X : Nat → Nat) (V : Nat → Nat → Int32) (th : Int32) (lc ec : Nat) (NN : Nat → Nat) (hlc : lc ≤ 12) (hec : ec ≤ 24) (hNN : ∀ i, i < lc → V 0 i = nI (NN i) ∧ NN i ≤ 40) (k : Nat) (hk : k < lc) (j : Nat) (hj : j < NN k) (hz : ¬ V 1 (40 * k + j) = 30) : wM g l yX3_tear wsX3_tear { frames := 4, cells := 0, slots := 0, locals := 89 } [.ref (h), .int (nI k), .int (nI j)] (mdW g h X V th lc ec) (some (.int (V 1 (40 * k + j)))) (mdW g h X (vup V 1 (upd (V 1) (40 * k + j) 30)) 0 lc ec) := by
  refine wr_ofI (cc := cX3_tear) (maxL := 3) (by decide) rfl (Nat.le_of_ble_eq_true rfl) ?_
  intro p e s m args below meth c H0 ls A Q hx hb hml hts hown hK hP hD hS hl hret
  have hl : lv_has ls 3 [(0, .ref (h)), (1, .int (nI k)), (2, .int (nI j))] := hl
  have S : CallFix p m c cX3_tear 3 s args wsX3_tear RX3 := ⟨hx, hb, hml, hown, hts⟩
  obtain ⟨H, eH⟩ : ∃ H : Heap, H = H0 := ⟨_, rfl⟩
  rw [← eH] at hP ⊢
  have hS : va_S A H0 H [] := by rw [eH]; exact hS
  have hP : va_P (gD g) vwCl [(h, .inr (3, [.int (th), .int (nI lc), .ref (X 0), .ref (X 1), .int (nI ec), .ref (X 2), .ref (X 3), .ref (X 4), .ref (X 5), .ref (X 6), .ref (X 7), .ref (X 8)])), (X 0, .inl (gI g, 12, .inl (V 0))), (X 1, .inl (gI g, 480, .inl (V 1))), (X 2, .inl (gI g, 24, .inl (V 2))), (X 3, .inl (gI g, 24, .inl (V 3))), (X 4, .inl (gI g, 24, .inl (V 4))), (X 5, .inl (gI g, 192, .inl (V 5))), (X 6, .inl (gI g, 24, .inl (V 6))), (X 7, .inl (gI g, 24, .inl (V 7))), (X 8, .inl (gI g, 24, .inl (V 8)))] H := hP
  have hD : va_D A [(h, .inr (3, [.int (th), .int (nI lc), .ref (X 0), .ref (X 1), .int (nI ec), .ref (X 2), .ref (X 3), .ref (X 4), .ref (X 5), .ref (X 6), .ref (X 7), .ref (X 8)])), (X 0, .inl (gI g, 12, .inl (V 0))), (X 1, .inl (gI g, 480, .inl (V 1))), (X 2, .inl (gI g, 24, .inl (V 2))), (X 3, .inl (gI g, 24, .inl (V 3))), (X 4, .inl (gI g, 24, .inl (V 4))), (X 5, .inl (gI g, 192, .inl (V 5))), (X 6, .inl (gI g, 24, .inl (V 6))), (X 7, .inl (gI g, 24, .inl (V 7))), (X 8, .inl (gI g, 24, .inl (V 8)))] := hD
  refine lv_aload_n hx hb dX3_tear_0 rfl (lv_at hl 0 rfl) ?_
  refine lv_iload_n hx hb dX3_tear_1 rfl (lv_at hl 1 rfl) ?_
  refine lv_iload_n hx hb dX3_tear_2 rfl (lv_at hl 2 rfl) ?_
  refine lv_bipush (v := 30) hx hb dX3_tear_3 (by decide +kernel) ?_
  refine w_V (As := [.int (nI k), .int (nI j), .int (30)]) (rest := []) S (c_X3_changed l g h X V th lc ec NN hlc hec hNN k hk j hj 30 hz) (cwV 3 hts gX3_tear_X3_changed rfl rfl rfl (by decide +kernel) ⟨Nat.le_of_ble_eq_true rfl, Nat.le_of_ble_eq_true rfl⟩) hK (va_recv hK.1 hP (ci := 3) (q0 := 0) rfl rfl) hP (hD.weaken (fun _ _ _ _ => trivial)) hS (wA_D hD [0, 1, 2, 3, 4, 5, 6, 7, 8, 9] rfl) rfl hl.1 rfl (Nat.le_of_ble_eq_true rfl) dX3_tear_5 ⟨Nat.le_of_ble_eq_true rfl, Nat.le_of_ble_eq_true rfl⟩ (fun H locs hP1 hz1 hk1 hS => ?_)
  have hP : va_P (gD g) vwCl [(h, .inr (3, [.int (0), .int (nI lc), .ref (X 0), .ref (X 1), .int (nI ec), .ref (X 2), .ref (X 3), .ref (X 4), .ref (X 5), .ref (X 6), .ref (X 7), .ref (X 8)])), (X 0, .inl (gI g, 12, .inl (V 0))), (X 1, .inl (gI g, 480, .inl (upd (V 1) (40 * k + j) 30))), (X 2, .inl (gI g, 24, .inl (V 2))), (X 3, .inl (gI g, 24, .inl (V 3))), (X 4, .inl (gI g, 24, .inl (V 4))), (X 5, .inl (gI g, 192, .inl (V 5))), (X 6, .inl (gI g, 24, .inl (V 6))), (X 7, .inl (gI g, 24, .inl (V 7))), (X 8, .inl (gI g, 24, .inl (V 8)))] H := hP1
  have hD : va_D A [(h, .inr (3, [.int (0), .int (nI lc), .ref (X 0), .ref (X 1), .int (nI ec), .ref (X 2), .ref (X 3), .ref (X 4), .ref (X 5), .ref (X 6), .ref (X 7), .ref (X 8)])), (X 0, .inl (gI g, 12, .inl (V 0))), (X 1, .inl (gI g, 480, .inl (upd (V 1) (40 * k + j) 30))), (X 2, .inl (gI g, 24, .inl (V 2))), (X 3, .inl (gI g, 24, .inl (V 3))), (X 4, .inl (gI g, 24, .inl (V 4))), (X 5, .inl (gI g, 192, .inl (V 5))), (X 6, .inl (gI g, 24, .inl (V 6))), (X 7, .inl (gI g, 24, .inl (V 7))), (X 8, .inl (gI g, 24, .inl (V 8)))] := D_same hD rfl
  exact hret _ _ _ _ hP hS dX3_tear_8

set_option maxHeartbeats 4000000 in
set_option maxRecDepth 100000 in
/-- changed_1 -/
theorem c_X3_changed_1 (l : Launch) (g : gT) (h : Nat) (X : Nat → Nat) (V : Nat → Nat → Int32) (th : Int32) (lc ec : Nat) (hlc : lc ≤ 12) (hec : ec ≤ 24) (x : Int32) (hxb : inB x lc = false) (y : Int32) (z : Int32) : wM g l yX3_changed wsX3_changed { frames := 3, cells := 0, slots := 0, locals := 65 } [.ref (h), .int (x), .int (y), .int (z)] (mdW g h X V th lc ec) (some (.int (0))) (mdW g h X V 1 lc ec) := by
  refine wr_ofI (cc := cX3_changed) (maxL := 5) (by decide) rfl (Nat.le_of_ble_eq_true rfl) ?_
  intro p e s m args below meth c H0 ls A Q hx hb hml hts hown hK hP hD hS hl hret
  have hl : lv_has ls 5 [(0, .ref (h)), (1, .int (x)), (2, .int (y)), (3, .int (z))] := hl
  have S : CallFix p m c cX3_changed 5 s args wsX3_changed RX3 := ⟨hx, hb, hml, hown, hts⟩
  have iX3 : ∀ w ∈ u_ws RX3 TX3 12, w ∈ wsX3_changed := by decide +kernel
  have f37 := hts (.fieldLink RX3 37 "LetterSealsModel" "thrown" "I") (by decide +kernel)
  obtain ⟨H, eH⟩ : ∃ H : Heap, H = H0 := ⟨_, rfl⟩
  rw [← eH] at hP ⊢
  have hS : va_S A H0 H [] := by rw [eH]; exact hS
  have hP : va_P (gD g) vwCl [(h, .inr (3, [.int (th), .int (nI lc), .ref (X 0), .ref (X 1), .int (nI ec), .ref (X 2), .ref (X 3), .ref (X 4), .ref (X 5), .ref (X 6), .ref (X 7), .ref (X 8)])), (X 0, .inl (gI g, 12, .inl (V 0))), (X 1, .inl (gI g, 480, .inl (V 1))), (X 2, .inl (gI g, 24, .inl (V 2))), (X 3, .inl (gI g, 24, .inl (V 3))), (X 4, .inl (gI g, 24, .inl (V 4))), (X 5, .inl (gI g, 192, .inl (V 5))), (X 6, .inl (gI g, 24, .inl (V 6))), (X 7, .inl (gI g, 24, .inl (V 7))), (X 8, .inl (gI g, 24, .inl (V 8)))] H := hP
  have hD : va_D A [(h, .inr (3, [.int (th), .int (nI lc), .ref (X 0), .ref (X 1), .int (nI ec), .ref (X 2), .ref (X 3), .ref (X 4), .ref (X 5), .ref (X 6), .ref (X 7), .ref (X 8)])), (X 0, .inl (gI g, 12, .inl (V 0))), (X 1, .inl (gI g, 480, .inl (V 1))), (X 2, .inl (gI g, 24, .inl (V 2))), (X 3, .inl (gI g, 24, .inl (V 3))), (X 4, .inl (gI g, 24, .inl (V 4))), (X 5, .inl (gI g, 192, .inl (V 5))), (X 6, .inl (gI g, 24, .inl (V 6))), (X 7, .inl (gI g, 24, .inl (V 7))), (X 8, .inl (gI g, 24, .inl (V 8)))] := hD
  refine lv_aload_n hx hb dX3_changed_0 rfl (lv_at hl 0 rfl) ?_
  refine lv_iconst (v := 0) hx hb dX3_changed_1 (by decide +kernel) ?_
  refine va_put (D := gD g) (ci := 3) (v := .int (0)) (ty := .int) (C := RX3) (T := TX3) (N := 12) hx hb hts iX3 tyX3 tyX3_ok nmX3 hown hK.1 hP hD hS 0 rfl rfl 0 (by decide) f37 (fun _ h9 => h9) rfl (by decide +kernel) rfl rfl (Nat.le_of_ble_eq_true rfl) dX3_changed_2 (fun H locs hP hD hS => ?_)
  have hP : va_P (gD g) vwCl [(h, .inr (3, [.int (0), .int (nI lc), .ref (X 0), .ref (X 1), .int (nI ec), .ref (X 2), .ref (X 3), .ref (X 4), .ref (X 5), .ref (X 6), .ref (X 7), .ref (X 8)])), (X 0, .inl (gI g, 12, .inl (V 0))), (X 1, .inl (gI g, 480, .inl (V 1))), (X 2, .inl (gI g, 24, .inl (V 2))), (X 3, .inl (gI g, 24, .inl (V 3))), (X 4, .inl (gI g, 24, .inl (V 4))), (X 5, .inl (gI g, 192, .inl (V 5))), (X 6, .inl (gI g, 24, .inl (V 6))), (X 7, .inl (gI g, 24, .inl (V 7))), (X 8, .inl (gI g, 24, .inl (V 8)))] H := hP
  have hD : va_D A [(h, .inr (3, [.int (0), .int (nI lc), .ref (X 0), .ref (X 1), .int (nI ec), .ref (X 2), .ref (X 3), .ref (X 4), .ref (X 5), .ref (X 6), .ref (X 7), .ref (X 8)])), (X 0, .inl (gI g, 12, .inl (V 0))), (X 1, .inl (gI g, 480, .inl (V 1))), (X 2, .inl (gI g, 24, .inl (V 2))), (X 3, .inl (gI g, 24, .inl (V 3))), (X 4, .inl (gI g, 24, .inl (V 4))), (X 5, .inl (gI g, 192, .inl (V 5))), (X 6, .inl (gI g, 24, .inl (V 6))), (X 7, .inl (gI g, 24, .inl (V 7))), (X 8, .inl (gI g, 24, .inl (V 8)))] := hD
  refine lv_aload_n hx hb dX3_changed_5 rfl (lv_at hl 0 rfl) ?_
  refine lv_iload_n hx hb dX3_changed_6 rfl (lv_at hl 1 rfl) ?_
  refine lv_iload_n hx hb dX3_changed_7 rfl (lv_at hl 2 rfl) ?_
  refine p_V (As := [.int (x), .int (y)]) (rest := []) S (c_X3_isPlace0 l g h X V 0 lc ec (x) (y) hlc hec hxb) (cwV 2 hts gX3_changed_X3_isPlace rfl rfl rfl (by decide +kernel) ⟨Nat.le_of_ble_eq_true rfl, Nat.le_of_ble_eq_true rfl⟩) hK (va_recv hK.1 hP (ci := 3) (q0 := 0) rfl rfl) (hP) rfl hl.1 rfl (Nat.le_of_ble_eq_true rfl) dX3_changed_8 ⟨Nat.le_of_ble_eq_true rfl, Nat.le_of_ble_eq_true rfl⟩ ?_
  refine br_neB (tgt := 20) hx hb dX3_changed_11 (by decide) (fun c11 => ?_) (fun c11 => ?_)
  · exact absurd c11 (by decide)
  · refine lv_aload_n hx hb dX3_changed_14 rfl (lv_at hl 0 rfl) ?_
    refine lv_iconst (v := 1) hx hb dX3_changed_15 (by decide +kernel) ?_
    refine w_V (As := [.int (1)]) (rest := []) S (c_X3_no l g h X V 0 lc ec (1)) (cwV 1 hts gX3_changed_X3_no rfl rfl rfl (by decide +kernel) ⟨Nat.le_of_ble_eq_true rfl, Nat.le_of_ble_eq_true rfl⟩) hK (va_recv hK.1 hP (ci := 3) (q0 := 0) rfl rfl) hP (hD.weaken (fun _ _ _ _ => trivial)) hS (wA_D hD [0, 1, 2, 3, 4, 5, 6, 7, 8, 9] rfl) rfl hl.1 rfl (Nat.le_of_ble_eq_true rfl) dX3_changed_16 ⟨Nat.le_of_ble_eq_true rfl, Nat.le_of_ble_eq_true rfl⟩ (fun H locs hP1 hz1 hk1 hS => ?_)
    have hP : va_P (gD g) vwCl [(h, .inr (3, [.int (1), .int (nI lc), .ref (X 0), .ref (X 1), .int (nI ec), .ref (X 2), .ref (X 3), .ref (X 4), .ref (X 5), .ref (X 6), .ref (X 7), .ref (X 8)])), (X 0, .inl (gI g, 12, .inl (V 0))), (X 1, .inl (gI g, 480, .inl (V 1))), (X 2, .inl (gI g, 24, .inl (V 2))), (X 3, .inl (gI g, 24, .inl (V 3))), (X 4, .inl (gI g, 24, .inl (V 4))), (X 5, .inl (gI g, 192, .inl (V 5))), (X 6, .inl (gI g, 24, .inl (V 6))), (X 7, .inl (gI g, 24, .inl (V 7))), (X 8, .inl (gI g, 24, .inl (V 8)))] H := hP1
    have hD : va_D A [(h, .inr (3, [.int (1), .int (nI lc), .ref (X 0), .ref (X 1), .int (nI ec), .ref (X 2), .ref (X 3), .ref (X 4), .ref (X 5), .ref (X 6), .ref (X 7), .ref (X 8)])), (X 0, .inl (gI g, 12, .inl (V 0))), (X 1, .inl (gI g, 480, .inl (V 1))), (X 2, .inl (gI g, 24, .inl (V 2))), (X 3, .inl (gI g, 24, .inl (V 3))), (X 4, .inl (gI g, 24, .inl (V 4))), (X 5, .inl (gI g, 192, .inl (V 5))), (X 6, .inl (gI g, 24, .inl (V 6))), (X 7, .inl (gI g, 24, .inl (V 7))), (X 8, .inl (gI g, 24, .inl (V 8)))] := D_same hD rfl
    exact hret _ _ _ _ hP hS dX3_changed_19

set_option maxHeartbeats 4000000 in
set_option maxRecDepth 100000 in
/-- forge_1 -/
theorem c_X3_forge_1 (l : Launch) (g : gT) (h : Nat) (X : Nat → Nat) (V : Nat → Nat → Int32) (th : Int32) (lc ec : Nat) (hlc : lc ≤ 12) (hec : ec ≤ 24) (x : Int32) (hxb : inB x lc = false) (y : Int32) : wM g l yX3_forge wsX3_forge { frames := 4, cells := 0, slots := 0, locals := 89 } [.ref (h), .int (x), .int (y)] (mdW g h X V th lc ec) (some (.int (0))) (mdW g h X V 1 lc ec) := by
  refine wr_ofI (cc := cX3_forge) (maxL := 3) (by decide) rfl (Nat.le_of_ble_eq_true rfl) ?_
  intro p e s m args below meth c H0 ls A Q hx hb hml hts hown hK hP hD hS hl hret
  have hl : lv_has ls 3 [(0, .ref (h)), (1, .int (x)), (2, .int (y))] := hl
  have S : CallFix p m c cX3_forge 3 s args wsX3_forge RX3 := ⟨hx, hb, hml, hown, hts⟩
  obtain ⟨H, eH⟩ : ∃ H : Heap, H = H0 := ⟨_, rfl⟩
  rw [← eH] at hP ⊢
  have hS : va_S A H0 H [] := by rw [eH]; exact hS
  have hP : va_P (gD g) vwCl [(h, .inr (3, [.int (th), .int (nI lc), .ref (X 0), .ref (X 1), .int (nI ec), .ref (X 2), .ref (X 3), .ref (X 4), .ref (X 5), .ref (X 6), .ref (X 7), .ref (X 8)])), (X 0, .inl (gI g, 12, .inl (V 0))), (X 1, .inl (gI g, 480, .inl (V 1))), (X 2, .inl (gI g, 24, .inl (V 2))), (X 3, .inl (gI g, 24, .inl (V 3))), (X 4, .inl (gI g, 24, .inl (V 4))), (X 5, .inl (gI g, 192, .inl (V 5))), (X 6, .inl (gI g, 24, .inl (V 6))), (X 7, .inl (gI g, 24, .inl (V 7))), (X 8, .inl (gI g, 24, .inl (V 8)))] H := hP
  have hD : va_D A [(h, .inr (3, [.int (th), .int (nI lc), .ref (X 0), .ref (X 1), .int (nI ec), .ref (X 2), .ref (X 3), .ref (X 4), .ref (X 5), .ref (X 6), .ref (X 7), .ref (X 8)])), (X 0, .inl (gI g, 12, .inl (V 0))), (X 1, .inl (gI g, 480, .inl (V 1))), (X 2, .inl (gI g, 24, .inl (V 2))), (X 3, .inl (gI g, 24, .inl (V 3))), (X 4, .inl (gI g, 24, .inl (V 4))), (X 5, .inl (gI g, 192, .inl (V 5))), (X 6, .inl (gI g, 24, .inl (V 6))), (X 7, .inl (gI g, 24, .inl (V 7))), (X 8, .inl (gI g, 24, .inl (V 8)))] := hD
  refine lv_aload_n hx hb dX3_forge_0 rfl (lv_at hl 0 rfl) ?_
  refine lv_iload_n hx hb dX3_forge_1 rfl (lv_at hl 1 rfl) ?_
  refine lv_iload_n hx hb dX3_forge_2 rfl (lv_at hl 2 rfl) ?_
  refine lv_bipush (v := 27) hx hb dX3_forge_3 (by decide +kernel) ?_
  refine w_V (As := [.int (x), .int (y), .int (27)]) (rest := []) S (c_X3_changed_1 l g h X V th lc ec hlc hec x hxb y 27) (cwV 3 hts gX3_forge_X3_changed rfl rfl rfl (by decide +kernel) ⟨Nat.le_of_ble_eq_true rfl, Nat.le_of_ble_eq_true rfl⟩) hK (va_recv hK.1 hP (ci := 3) (q0 := 0) rfl rfl) hP (hD.weaken (fun _ _ _ _ => trivial)) hS (wA_D hD [0, 1, 2, 3, 4, 5, 6, 7, 8, 9] rfl) rfl hl.1 rfl (Nat.le_of_ble_eq_true rfl) dX3_forge_5 ⟨Nat.le_of_ble_eq_true rfl, Nat.le_of_ble_eq_true rfl⟩ (fun H locs hP1 hz1 hk1 hS => ?_)
  have hP : va_P (gD g) vwCl [(h, .inr (3, [.int (1), .int (nI lc), .ref (X 0), .ref (X 1), .int (nI ec), .ref (X 2), .ref (X 3), .ref (X 4), .ref (X 5), .ref (X 6), .ref (X 7), .ref (X 8)])), (X 0, .inl (gI g, 12, .inl (V 0))), (X 1, .inl (gI g, 480, .inl (V 1))), (X 2, .inl (gI g, 24, .inl (V 2))), (X 3, .inl (gI g, 24, .inl (V 3))), (X 4, .inl (gI g, 24, .inl (V 4))), (X 5, .inl (gI g, 192, .inl (V 5))), (X 6, .inl (gI g, 24, .inl (V 6))), (X 7, .inl (gI g, 24, .inl (V 7))), (X 8, .inl (gI g, 24, .inl (V 8)))] H := hP1
  have hD : va_D A [(h, .inr (3, [.int (1), .int (nI lc), .ref (X 0), .ref (X 1), .int (nI ec), .ref (X 2), .ref (X 3), .ref (X 4), .ref (X 5), .ref (X 6), .ref (X 7), .ref (X 8)])), (X 0, .inl (gI g, 12, .inl (V 0))), (X 1, .inl (gI g, 480, .inl (V 1))), (X 2, .inl (gI g, 24, .inl (V 2))), (X 3, .inl (gI g, 24, .inl (V 3))), (X 4, .inl (gI g, 24, .inl (V 4))), (X 5, .inl (gI g, 192, .inl (V 5))), (X 6, .inl (gI g, 24, .inl (V 6))), (X 7, .inl (gI g, 24, .inl (V 7))), (X 8, .inl (gI g, 24, .inl (V 8)))] := D_same hD rfl
  exact hret _ _ _ _ hP hS dX3_forge_8

set_option maxHeartbeats 4000000 in
set_option maxRecDepth 100000 in
/-- tear_1 -/
theorem c_X3_tear_1 (l : Launch) (g : gT) (h : Nat) (X : Nat → Nat) (V : Nat → Nat → Int32) (th : Int32) (lc ec : Nat) (hlc : lc ≤ 12) (hec : ec ≤ 24) (x : Int32) (hxb : inB x lc = false) (y : Int32) : wM g l yX3_tear wsX3_tear { frames := 4, cells := 0, slots := 0, locals := 89 } [.ref (h), .int (x), .int (y)] (mdW g h X V th lc ec) (some (.int (0))) (mdW g h X V 1 lc ec) := by
  refine wr_ofI (cc := cX3_tear) (maxL := 3) (by decide) rfl (Nat.le_of_ble_eq_true rfl) ?_
  intro p e s m args below meth c H0 ls A Q hx hb hml hts hown hK hP hD hS hl hret
  have hl : lv_has ls 3 [(0, .ref (h)), (1, .int (x)), (2, .int (y))] := hl
  have S : CallFix p m c cX3_tear 3 s args wsX3_tear RX3 := ⟨hx, hb, hml, hown, hts⟩
  obtain ⟨H, eH⟩ : ∃ H : Heap, H = H0 := ⟨_, rfl⟩
  rw [← eH] at hP ⊢
  have hS : va_S A H0 H [] := by rw [eH]; exact hS
  have hP : va_P (gD g) vwCl [(h, .inr (3, [.int (th), .int (nI lc), .ref (X 0), .ref (X 1), .int (nI ec), .ref (X 2), .ref (X 3), .ref (X 4), .ref (X 5), .ref (X 6), .ref (X 7), .ref (X 8)])), (X 0, .inl (gI g, 12, .inl (V 0))), (X 1, .inl (gI g, 480, .inl (V 1))), (X 2, .inl (gI g, 24, .inl (V 2))), (X 3, .inl (gI g, 24, .inl (V 3))), (X 4, .inl (gI g, 24, .inl (V 4))), (X 5, .inl (gI g, 192, .inl (V 5))), (X 6, .inl (gI g, 24, .inl (V 6))), (X 7, .inl (gI g, 24, .inl (V 7))), (X 8, .inl (gI g, 24, .inl (V 8)))] H := hP
  have hD : va_D A [(h, .inr (3, [.int (th), .int (nI lc), .ref (X 0), .ref (X 1), .int (nI ec), .ref (X 2), .ref (X 3), .ref (X 4), .ref (X 5), .ref (X 6), .ref (X 7), .ref (X 8)])), (X 0, .inl (gI g, 12, .inl (V 0))), (X 1, .inl (gI g, 480, .inl (V 1))), (X 2, .inl (gI g, 24, .inl (V 2))), (X 3, .inl (gI g, 24, .inl (V 3))), (X 4, .inl (gI g, 24, .inl (V 4))), (X 5, .inl (gI g, 192, .inl (V 5))), (X 6, .inl (gI g, 24, .inl (V 6))), (X 7, .inl (gI g, 24, .inl (V 7))), (X 8, .inl (gI g, 24, .inl (V 8)))] := hD
  refine lv_aload_n hx hb dX3_tear_0 rfl (lv_at hl 0 rfl) ?_
  refine lv_iload_n hx hb dX3_tear_1 rfl (lv_at hl 1 rfl) ?_
  refine lv_iload_n hx hb dX3_tear_2 rfl (lv_at hl 2 rfl) ?_
  refine lv_bipush (v := 30) hx hb dX3_tear_3 (by decide +kernel) ?_
  refine w_V (As := [.int (x), .int (y), .int (30)]) (rest := []) S (c_X3_changed_1 l g h X V th lc ec hlc hec x hxb y 30) (cwV 3 hts gX3_tear_X3_changed rfl rfl rfl (by decide +kernel) ⟨Nat.le_of_ble_eq_true rfl, Nat.le_of_ble_eq_true rfl⟩) hK (va_recv hK.1 hP (ci := 3) (q0 := 0) rfl rfl) hP (hD.weaken (fun _ _ _ _ => trivial)) hS (wA_D hD [0, 1, 2, 3, 4, 5, 6, 7, 8, 9] rfl) rfl hl.1 rfl (Nat.le_of_ble_eq_true rfl) dX3_tear_5 ⟨Nat.le_of_ble_eq_true rfl, Nat.le_of_ble_eq_true rfl⟩ (fun H locs hP1 hz1 hk1 hS => ?_)
  have hP : va_P (gD g) vwCl [(h, .inr (3, [.int (1), .int (nI lc), .ref (X 0), .ref (X 1), .int (nI ec), .ref (X 2), .ref (X 3), .ref (X 4), .ref (X 5), .ref (X 6), .ref (X 7), .ref (X 8)])), (X 0, .inl (gI g, 12, .inl (V 0))), (X 1, .inl (gI g, 480, .inl (V 1))), (X 2, .inl (gI g, 24, .inl (V 2))), (X 3, .inl (gI g, 24, .inl (V 3))), (X 4, .inl (gI g, 24, .inl (V 4))), (X 5, .inl (gI g, 192, .inl (V 5))), (X 6, .inl (gI g, 24, .inl (V 6))), (X 7, .inl (gI g, 24, .inl (V 7))), (X 8, .inl (gI g, 24, .inl (V 8)))] H := hP1
  have hD : va_D A [(h, .inr (3, [.int (1), .int (nI lc), .ref (X 0), .ref (X 1), .int (nI ec), .ref (X 2), .ref (X 3), .ref (X 4), .ref (X 5), .ref (X 6), .ref (X 7), .ref (X 8)])), (X 0, .inl (gI g, 12, .inl (V 0))), (X 1, .inl (gI g, 480, .inl (V 1))), (X 2, .inl (gI g, 24, .inl (V 2))), (X 3, .inl (gI g, 24, .inl (V 3))), (X 4, .inl (gI g, 24, .inl (V 4))), (X 5, .inl (gI g, 192, .inl (V 5))), (X 6, .inl (gI g, 24, .inl (V 6))), (X 7, .inl (gI g, 24, .inl (V 7))), (X 8, .inl (gI g, 24, .inl (V 8)))] := D_same hD rfl
  exact hret _ _ _ _ hP hS dX3_tear_8

set_option maxHeartbeats 4000000 in
set_option maxRecDepth 100000 in
/-- changed_1b -/
theorem c_X3_changed_1b (l : Launch) (g : gT) (h : Nat) (X : Nat → Nat) (V : Nat → Nat → Int32) (th : Int32) (lc ec : Nat) (NN : Nat → Nat) (hlc : lc ≤ 12) (hec : ec ≤ 24) (hNN : ∀ i, i < lc → V 0 i = nI (NN i) ∧ NN i ≤ 40) (k : Nat) (hk : k < lc) (y : Int32) (hy : inB y (NN k) = false) (z : Int32) : wM g l yX3_changed wsX3_changed { frames := 3, cells := 0, slots := 0, locals := 65 } [.ref (h), .int (nI k), .int (y), .int (z)] (mdW g h X V th lc ec) (some (.int (0))) (mdW g h X V 1 lc ec) := by
  refine wr_ofI (cc := cX3_changed) (maxL := 5) (by decide) rfl (Nat.le_of_ble_eq_true rfl) ?_
  intro p e s m args below meth c H0 ls A Q hx hb hml hts hown hK hP hD hS hl hret
  have hl : lv_has ls 5 [(0, .ref (h)), (1, .int (nI k)), (2, .int (y)), (3, .int (z))] := hl
  have S : CallFix p m c cX3_changed 5 s args wsX3_changed RX3 := ⟨hx, hb, hml, hown, hts⟩
  have hgk : inB (nI k) lc = true := inB_nI hk (by omega)
  have hVn := (hNN k hk).1
  have hn := (hNN k hk).2
  have iX3 : ∀ w ∈ u_ws RX3 TX3 12, w ∈ wsX3_changed := by decide +kernel
  have f37 := hts (.fieldLink RX3 37 "LetterSealsModel" "thrown" "I") (by decide +kernel)
  obtain ⟨H, eH⟩ : ∃ H : Heap, H = H0 := ⟨_, rfl⟩
  rw [← eH] at hP ⊢
  have hS : va_S A H0 H [] := by rw [eH]; exact hS
  have hP : va_P (gD g) vwCl [(h, .inr (3, [.int (th), .int (nI lc), .ref (X 0), .ref (X 1), .int (nI ec), .ref (X 2), .ref (X 3), .ref (X 4), .ref (X 5), .ref (X 6), .ref (X 7), .ref (X 8)])), (X 0, .inl (gI g, 12, .inl (V 0))), (X 1, .inl (gI g, 480, .inl (V 1))), (X 2, .inl (gI g, 24, .inl (V 2))), (X 3, .inl (gI g, 24, .inl (V 3))), (X 4, .inl (gI g, 24, .inl (V 4))), (X 5, .inl (gI g, 192, .inl (V 5))), (X 6, .inl (gI g, 24, .inl (V 6))), (X 7, .inl (gI g, 24, .inl (V 7))), (X 8, .inl (gI g, 24, .inl (V 8)))] H := hP
  have hD : va_D A [(h, .inr (3, [.int (th), .int (nI lc), .ref (X 0), .ref (X 1), .int (nI ec), .ref (X 2), .ref (X 3), .ref (X 4), .ref (X 5), .ref (X 6), .ref (X 7), .ref (X 8)])), (X 0, .inl (gI g, 12, .inl (V 0))), (X 1, .inl (gI g, 480, .inl (V 1))), (X 2, .inl (gI g, 24, .inl (V 2))), (X 3, .inl (gI g, 24, .inl (V 3))), (X 4, .inl (gI g, 24, .inl (V 4))), (X 5, .inl (gI g, 192, .inl (V 5))), (X 6, .inl (gI g, 24, .inl (V 6))), (X 7, .inl (gI g, 24, .inl (V 7))), (X 8, .inl (gI g, 24, .inl (V 8)))] := hD
  refine lv_aload_n hx hb dX3_changed_0 rfl (lv_at hl 0 rfl) ?_
  refine lv_iconst (v := 0) hx hb dX3_changed_1 (by decide +kernel) ?_
  refine va_put (D := gD g) (ci := 3) (v := .int (0)) (ty := .int) (C := RX3) (T := TX3) (N := 12) hx hb hts iX3 tyX3 tyX3_ok nmX3 hown hK.1 hP hD hS 0 rfl rfl 0 (by decide) f37 (fun _ h9 => h9) rfl (by decide +kernel) rfl rfl (Nat.le_of_ble_eq_true rfl) dX3_changed_2 (fun H locs hP hD hS => ?_)
  have hP : va_P (gD g) vwCl [(h, .inr (3, [.int (0), .int (nI lc), .ref (X 0), .ref (X 1), .int (nI ec), .ref (X 2), .ref (X 3), .ref (X 4), .ref (X 5), .ref (X 6), .ref (X 7), .ref (X 8)])), (X 0, .inl (gI g, 12, .inl (V 0))), (X 1, .inl (gI g, 480, .inl (V 1))), (X 2, .inl (gI g, 24, .inl (V 2))), (X 3, .inl (gI g, 24, .inl (V 3))), (X 4, .inl (gI g, 24, .inl (V 4))), (X 5, .inl (gI g, 192, .inl (V 5))), (X 6, .inl (gI g, 24, .inl (V 6))), (X 7, .inl (gI g, 24, .inl (V 7))), (X 8, .inl (gI g, 24, .inl (V 8)))] H := hP
  have hD : va_D A [(h, .inr (3, [.int (0), .int (nI lc), .ref (X 0), .ref (X 1), .int (nI ec), .ref (X 2), .ref (X 3), .ref (X 4), .ref (X 5), .ref (X 6), .ref (X 7), .ref (X 8)])), (X 0, .inl (gI g, 12, .inl (V 0))), (X 1, .inl (gI g, 480, .inl (V 1))), (X 2, .inl (gI g, 24, .inl (V 2))), (X 3, .inl (gI g, 24, .inl (V 3))), (X 4, .inl (gI g, 24, .inl (V 4))), (X 5, .inl (gI g, 192, .inl (V 5))), (X 6, .inl (gI g, 24, .inl (V 6))), (X 7, .inl (gI g, 24, .inl (V 7))), (X 8, .inl (gI g, 24, .inl (V 8)))] := hD
  refine lv_aload_n hx hb dX3_changed_5 rfl (lv_at hl 0 rfl) ?_
  refine lv_iload_n hx hb dX3_changed_6 rfl (lv_at hl 1 rfl) ?_
  refine lv_iload_n hx hb dX3_changed_7 rfl (lv_at hl 2 rfl) ?_
  refine p_V (As := [.int (nI k), .int (y)]) (rest := []) S (c_X3_isPlace l g h X V 0 lc ec NN hlc hec hNN k hk (y)) (cwV 2 hts gX3_changed_X3_isPlace rfl rfl rfl (by decide +kernel) ⟨Nat.le_of_ble_eq_true rfl, Nat.le_of_ble_eq_true rfl⟩) hK (va_recv hK.1 hP (ci := 3) (q0 := 0) rfl rfl) (hP) rfl hl.1 rfl (Nat.le_of_ble_eq_true rfl) dX3_changed_8 ⟨Nat.le_of_ble_eq_true rfl, Nat.le_of_ble_eq_true rfl⟩ ?_
  refine br_neB (tgt := 20) hx hb dX3_changed_11 (by decide) (fun c11 => ?_) (fun c11 => ?_)
  · exact absurd c11 (by rw [hy]; decide)
  · refine lv_aload_n hx hb dX3_changed_14 rfl (lv_at hl 0 rfl) ?_
    refine lv_iconst (v := 1) hx hb dX3_changed_15 (by decide +kernel) ?_
    refine w_V (As := [.int (1)]) (rest := []) S (c_X3_no l g h X V 0 lc ec (1)) (cwV 1 hts gX3_changed_X3_no rfl rfl rfl (by decide +kernel) ⟨Nat.le_of_ble_eq_true rfl, Nat.le_of_ble_eq_true rfl⟩) hK (va_recv hK.1 hP (ci := 3) (q0 := 0) rfl rfl) hP (hD.weaken (fun _ _ _ _ => trivial)) hS (wA_D hD [0, 1, 2, 3, 4, 5, 6, 7, 8, 9] rfl) rfl hl.1 rfl (Nat.le_of_ble_eq_true rfl) dX3_changed_16 ⟨Nat.le_of_ble_eq_true rfl, Nat.le_of_ble_eq_true rfl⟩ (fun H locs hP1 hz1 hk1 hS => ?_)
    have hP : va_P (gD g) vwCl [(h, .inr (3, [.int (1), .int (nI lc), .ref (X 0), .ref (X 1), .int (nI ec), .ref (X 2), .ref (X 3), .ref (X 4), .ref (X 5), .ref (X 6), .ref (X 7), .ref (X 8)])), (X 0, .inl (gI g, 12, .inl (V 0))), (X 1, .inl (gI g, 480, .inl (V 1))), (X 2, .inl (gI g, 24, .inl (V 2))), (X 3, .inl (gI g, 24, .inl (V 3))), (X 4, .inl (gI g, 24, .inl (V 4))), (X 5, .inl (gI g, 192, .inl (V 5))), (X 6, .inl (gI g, 24, .inl (V 6))), (X 7, .inl (gI g, 24, .inl (V 7))), (X 8, .inl (gI g, 24, .inl (V 8)))] H := hP1
    have hD : va_D A [(h, .inr (3, [.int (1), .int (nI lc), .ref (X 0), .ref (X 1), .int (nI ec), .ref (X 2), .ref (X 3), .ref (X 4), .ref (X 5), .ref (X 6), .ref (X 7), .ref (X 8)])), (X 0, .inl (gI g, 12, .inl (V 0))), (X 1, .inl (gI g, 480, .inl (V 1))), (X 2, .inl (gI g, 24, .inl (V 2))), (X 3, .inl (gI g, 24, .inl (V 3))), (X 4, .inl (gI g, 24, .inl (V 4))), (X 5, .inl (gI g, 192, .inl (V 5))), (X 6, .inl (gI g, 24, .inl (V 6))), (X 7, .inl (gI g, 24, .inl (V 7))), (X 8, .inl (gI g, 24, .inl (V 8)))] := D_same hD rfl
    exact hret _ _ _ _ hP hS dX3_changed_19

set_option maxHeartbeats 4000000 in
set_option maxRecDepth 100000 in
/-- forge_1b -/
theorem c_X3_forge_1b (l : Launch) (g : gT) (h : Nat) (X : Nat → Nat) (V : Nat → Nat → Int32) (th : Int32) (lc ec : Nat) (NN : Nat → Nat) (hlc : lc ≤ 12) (hec : ec ≤ 24) (hNN : ∀ i, i < lc → V 0 i = nI (NN i) ∧ NN i ≤ 40) (k : Nat) (hk : k < lc) (y : Int32) (hy : inB y (NN k) = false) : wM g l yX3_forge wsX3_forge { frames := 4, cells := 0, slots := 0, locals := 89 } [.ref (h), .int (nI k), .int (y)] (mdW g h X V th lc ec) (some (.int (0))) (mdW g h X V 1 lc ec) := by
  refine wr_ofI (cc := cX3_forge) (maxL := 3) (by decide) rfl (Nat.le_of_ble_eq_true rfl) ?_
  intro p e s m args below meth c H0 ls A Q hx hb hml hts hown hK hP hD hS hl hret
  have hl : lv_has ls 3 [(0, .ref (h)), (1, .int (nI k)), (2, .int (y))] := hl
  have S : CallFix p m c cX3_forge 3 s args wsX3_forge RX3 := ⟨hx, hb, hml, hown, hts⟩
  obtain ⟨H, eH⟩ : ∃ H : Heap, H = H0 := ⟨_, rfl⟩
  rw [← eH] at hP ⊢
  have hS : va_S A H0 H [] := by rw [eH]; exact hS
  have hP : va_P (gD g) vwCl [(h, .inr (3, [.int (th), .int (nI lc), .ref (X 0), .ref (X 1), .int (nI ec), .ref (X 2), .ref (X 3), .ref (X 4), .ref (X 5), .ref (X 6), .ref (X 7), .ref (X 8)])), (X 0, .inl (gI g, 12, .inl (V 0))), (X 1, .inl (gI g, 480, .inl (V 1))), (X 2, .inl (gI g, 24, .inl (V 2))), (X 3, .inl (gI g, 24, .inl (V 3))), (X 4, .inl (gI g, 24, .inl (V 4))), (X 5, .inl (gI g, 192, .inl (V 5))), (X 6, .inl (gI g, 24, .inl (V 6))), (X 7, .inl (gI g, 24, .inl (V 7))), (X 8, .inl (gI g, 24, .inl (V 8)))] H := hP
  have hD : va_D A [(h, .inr (3, [.int (th), .int (nI lc), .ref (X 0), .ref (X 1), .int (nI ec), .ref (X 2), .ref (X 3), .ref (X 4), .ref (X 5), .ref (X 6), .ref (X 7), .ref (X 8)])), (X 0, .inl (gI g, 12, .inl (V 0))), (X 1, .inl (gI g, 480, .inl (V 1))), (X 2, .inl (gI g, 24, .inl (V 2))), (X 3, .inl (gI g, 24, .inl (V 3))), (X 4, .inl (gI g, 24, .inl (V 4))), (X 5, .inl (gI g, 192, .inl (V 5))), (X 6, .inl (gI g, 24, .inl (V 6))), (X 7, .inl (gI g, 24, .inl (V 7))), (X 8, .inl (gI g, 24, .inl (V 8)))] := hD
  refine lv_aload_n hx hb dX3_forge_0 rfl (lv_at hl 0 rfl) ?_
  refine lv_iload_n hx hb dX3_forge_1 rfl (lv_at hl 1 rfl) ?_
  refine lv_iload_n hx hb dX3_forge_2 rfl (lv_at hl 2 rfl) ?_
  refine lv_bipush (v := 27) hx hb dX3_forge_3 (by decide +kernel) ?_
  refine w_V (As := [.int (nI k), .int (y), .int (27)]) (rest := []) S (c_X3_changed_1b l g h X V th lc ec NN hlc hec hNN k hk y hy 27) (cwV 3 hts gX3_forge_X3_changed rfl rfl rfl (by decide +kernel) ⟨Nat.le_of_ble_eq_true rfl, Nat.le_of_ble_eq_true rfl⟩) hK (va_recv hK.1 hP (ci := 3) (q0 := 0) rfl rfl) hP (hD.weaken (fun _ _ _ _ => trivial)) hS (wA_D hD [0, 1, 2, 3, 4, 5, 6, 7, 8, 9] rfl) rfl hl.1 rfl (Nat.le_of_ble_eq_true rfl) dX3_forge_5 ⟨Nat.le_of_ble_eq_true rfl, Nat.le_of_ble_eq_true rfl⟩ (fun H locs hP1 hz1 hk1 hS => ?_)
  have hP : va_P (gD g) vwCl [(h, .inr (3, [.int (1), .int (nI lc), .ref (X 0), .ref (X 1), .int (nI ec), .ref (X 2), .ref (X 3), .ref (X 4), .ref (X 5), .ref (X 6), .ref (X 7), .ref (X 8)])), (X 0, .inl (gI g, 12, .inl (V 0))), (X 1, .inl (gI g, 480, .inl (V 1))), (X 2, .inl (gI g, 24, .inl (V 2))), (X 3, .inl (gI g, 24, .inl (V 3))), (X 4, .inl (gI g, 24, .inl (V 4))), (X 5, .inl (gI g, 192, .inl (V 5))), (X 6, .inl (gI g, 24, .inl (V 6))), (X 7, .inl (gI g, 24, .inl (V 7))), (X 8, .inl (gI g, 24, .inl (V 8)))] H := hP1
  have hD : va_D A [(h, .inr (3, [.int (1), .int (nI lc), .ref (X 0), .ref (X 1), .int (nI ec), .ref (X 2), .ref (X 3), .ref (X 4), .ref (X 5), .ref (X 6), .ref (X 7), .ref (X 8)])), (X 0, .inl (gI g, 12, .inl (V 0))), (X 1, .inl (gI g, 480, .inl (V 1))), (X 2, .inl (gI g, 24, .inl (V 2))), (X 3, .inl (gI g, 24, .inl (V 3))), (X 4, .inl (gI g, 24, .inl (V 4))), (X 5, .inl (gI g, 192, .inl (V 5))), (X 6, .inl (gI g, 24, .inl (V 6))), (X 7, .inl (gI g, 24, .inl (V 7))), (X 8, .inl (gI g, 24, .inl (V 8)))] := D_same hD rfl
  exact hret _ _ _ _ hP hS dX3_forge_8

set_option maxHeartbeats 4000000 in
set_option maxRecDepth 100000 in
/-- tear_1b -/
theorem c_X3_tear_1b (l : Launch) (g : gT) (h : Nat) (X : Nat → Nat) (V : Nat → Nat → Int32) (th : Int32) (lc ec : Nat) (NN : Nat → Nat) (hlc : lc ≤ 12) (hec : ec ≤ 24) (hNN : ∀ i, i < lc → V 0 i = nI (NN i) ∧ NN i ≤ 40) (k : Nat) (hk : k < lc) (y : Int32) (hy : inB y (NN k) = false) : wM g l yX3_tear wsX3_tear { frames := 4, cells := 0, slots := 0, locals := 89 } [.ref (h), .int (nI k), .int (y)] (mdW g h X V th lc ec) (some (.int (0))) (mdW g h X V 1 lc ec) := by
  refine wr_ofI (cc := cX3_tear) (maxL := 3) (by decide) rfl (Nat.le_of_ble_eq_true rfl) ?_
  intro p e s m args below meth c H0 ls A Q hx hb hml hts hown hK hP hD hS hl hret
  have hl : lv_has ls 3 [(0, .ref (h)), (1, .int (nI k)), (2, .int (y))] := hl
  have S : CallFix p m c cX3_tear 3 s args wsX3_tear RX3 := ⟨hx, hb, hml, hown, hts⟩
  obtain ⟨H, eH⟩ : ∃ H : Heap, H = H0 := ⟨_, rfl⟩
  rw [← eH] at hP ⊢
  have hS : va_S A H0 H [] := by rw [eH]; exact hS
  have hP : va_P (gD g) vwCl [(h, .inr (3, [.int (th), .int (nI lc), .ref (X 0), .ref (X 1), .int (nI ec), .ref (X 2), .ref (X 3), .ref (X 4), .ref (X 5), .ref (X 6), .ref (X 7), .ref (X 8)])), (X 0, .inl (gI g, 12, .inl (V 0))), (X 1, .inl (gI g, 480, .inl (V 1))), (X 2, .inl (gI g, 24, .inl (V 2))), (X 3, .inl (gI g, 24, .inl (V 3))), (X 4, .inl (gI g, 24, .inl (V 4))), (X 5, .inl (gI g, 192, .inl (V 5))), (X 6, .inl (gI g, 24, .inl (V 6))), (X 7, .inl (gI g, 24, .inl (V 7))), (X 8, .inl (gI g, 24, .inl (V 8)))] H := hP
  have hD : va_D A [(h, .inr (3, [.int (th), .int (nI lc), .ref (X 0), .ref (X 1), .int (nI ec), .ref (X 2), .ref (X 3), .ref (X 4), .ref (X 5), .ref (X 6), .ref (X 7), .ref (X 8)])), (X 0, .inl (gI g, 12, .inl (V 0))), (X 1, .inl (gI g, 480, .inl (V 1))), (X 2, .inl (gI g, 24, .inl (V 2))), (X 3, .inl (gI g, 24, .inl (V 3))), (X 4, .inl (gI g, 24, .inl (V 4))), (X 5, .inl (gI g, 192, .inl (V 5))), (X 6, .inl (gI g, 24, .inl (V 6))), (X 7, .inl (gI g, 24, .inl (V 7))), (X 8, .inl (gI g, 24, .inl (V 8)))] := hD
  refine lv_aload_n hx hb dX3_tear_0 rfl (lv_at hl 0 rfl) ?_
  refine lv_iload_n hx hb dX3_tear_1 rfl (lv_at hl 1 rfl) ?_
  refine lv_iload_n hx hb dX3_tear_2 rfl (lv_at hl 2 rfl) ?_
  refine lv_bipush (v := 30) hx hb dX3_tear_3 (by decide +kernel) ?_
  refine w_V (As := [.int (nI k), .int (y), .int (30)]) (rest := []) S (c_X3_changed_1b l g h X V th lc ec NN hlc hec hNN k hk y hy 30) (cwV 3 hts gX3_tear_X3_changed rfl rfl rfl (by decide +kernel) ⟨Nat.le_of_ble_eq_true rfl, Nat.le_of_ble_eq_true rfl⟩) hK (va_recv hK.1 hP (ci := 3) (q0 := 0) rfl rfl) hP (hD.weaken (fun _ _ _ _ => trivial)) hS (wA_D hD [0, 1, 2, 3, 4, 5, 6, 7, 8, 9] rfl) rfl hl.1 rfl (Nat.le_of_ble_eq_true rfl) dX3_tear_5 ⟨Nat.le_of_ble_eq_true rfl, Nat.le_of_ble_eq_true rfl⟩ (fun H locs hP1 hz1 hk1 hS => ?_)
  have hP : va_P (gD g) vwCl [(h, .inr (3, [.int (1), .int (nI lc), .ref (X 0), .ref (X 1), .int (nI ec), .ref (X 2), .ref (X 3), .ref (X 4), .ref (X 5), .ref (X 6), .ref (X 7), .ref (X 8)])), (X 0, .inl (gI g, 12, .inl (V 0))), (X 1, .inl (gI g, 480, .inl (V 1))), (X 2, .inl (gI g, 24, .inl (V 2))), (X 3, .inl (gI g, 24, .inl (V 3))), (X 4, .inl (gI g, 24, .inl (V 4))), (X 5, .inl (gI g, 192, .inl (V 5))), (X 6, .inl (gI g, 24, .inl (V 6))), (X 7, .inl (gI g, 24, .inl (V 7))), (X 8, .inl (gI g, 24, .inl (V 8)))] H := hP1
  have hD : va_D A [(h, .inr (3, [.int (1), .int (nI lc), .ref (X 0), .ref (X 1), .int (nI ec), .ref (X 2), .ref (X 3), .ref (X 4), .ref (X 5), .ref (X 6), .ref (X 7), .ref (X 8)])), (X 0, .inl (gI g, 12, .inl (V 0))), (X 1, .inl (gI g, 480, .inl (V 1))), (X 2, .inl (gI g, 24, .inl (V 2))), (X 3, .inl (gI g, 24, .inl (V 3))), (X 4, .inl (gI g, 24, .inl (V 4))), (X 5, .inl (gI g, 192, .inl (V 5))), (X 6, .inl (gI g, 24, .inl (V 6))), (X 7, .inl (gI g, 24, .inl (V 7))), (X 8, .inl (gI g, 24, .inl (V 8)))] := D_same hD rfl
  exact hret _ _ _ _ hP hS dX3_tear_8

set_option maxHeartbeats 4000000 in
set_option maxRecDepth 100000 in
/-- changed_2 -/
theorem c_X3_changed_2 (l : Launch) (g : gT) (h : Nat) (X : Nat → Nat) (V : Nat → Nat → Int32) (th : Int32) (lc ec : Nat) (NN : Nat → Nat) (hlc : lc ≤ 12) (hec : ec ≤ 24) (hNN : ∀ i, i < lc → V 0 i = nI (NN i) ∧ NN i ≤ 40) (k : Nat) (hk : k < lc) (j : Nat) (hj : j < NN k) (z : Int32) (hz : V 1 (40 * k + j) = z) : wM g l yX3_changed wsX3_changed { frames := 3, cells := 0, slots := 0, locals := 65 } [.ref (h), .int (nI k), .int (nI j), .int (z)] (mdW g h X V th lc ec) (some (.int (0))) (mdW g h X V 2 lc ec) := by
  refine wr_ofI (cc := cX3_changed) (maxL := 5) (by decide) rfl (Nat.le_of_ble_eq_true rfl) ?_
  intro p e s m args below meth c H0 ls A Q hx hb hml hts hown hK hP hD hS hl hret
  have hl : lv_has ls 5 [(0, .ref (h)), (1, .int (nI k)), (2, .int (nI j)), (3, .int (z))] := hl
  have S : CallFix p m c cX3_changed 5 s args wsX3_changed RX3 := ⟨hx, hb, hml, hown, hts⟩
  have hgk : inB (nI k) lc = true := inB_nI hk (by omega)
  have hVn := (hNN k hk).1
  have hn := (hNN k hk).2
  have hgj : inB (nI j) (NN k) = true := inB_nI hj (by omega)
  have iX3 : ∀ w ∈ u_ws RX3 TX3 12, w ∈ wsX3_changed := by decide +kernel
  have f37 := hts (.fieldLink RX3 37 "LetterSealsModel" "thrown" "I") (by decide +kernel)
  obtain ⟨H, eH⟩ : ∃ H : Heap, H = H0 := ⟨_, rfl⟩
  rw [← eH] at hP ⊢
  have hS : va_S A H0 H [] := by rw [eH]; exact hS
  have hP : va_P (gD g) vwCl [(h, .inr (3, [.int (th), .int (nI lc), .ref (X 0), .ref (X 1), .int (nI ec), .ref (X 2), .ref (X 3), .ref (X 4), .ref (X 5), .ref (X 6), .ref (X 7), .ref (X 8)])), (X 0, .inl (gI g, 12, .inl (V 0))), (X 1, .inl (gI g, 480, .inl (V 1))), (X 2, .inl (gI g, 24, .inl (V 2))), (X 3, .inl (gI g, 24, .inl (V 3))), (X 4, .inl (gI g, 24, .inl (V 4))), (X 5, .inl (gI g, 192, .inl (V 5))), (X 6, .inl (gI g, 24, .inl (V 6))), (X 7, .inl (gI g, 24, .inl (V 7))), (X 8, .inl (gI g, 24, .inl (V 8)))] H := hP
  have hD : va_D A [(h, .inr (3, [.int (th), .int (nI lc), .ref (X 0), .ref (X 1), .int (nI ec), .ref (X 2), .ref (X 3), .ref (X 4), .ref (X 5), .ref (X 6), .ref (X 7), .ref (X 8)])), (X 0, .inl (gI g, 12, .inl (V 0))), (X 1, .inl (gI g, 480, .inl (V 1))), (X 2, .inl (gI g, 24, .inl (V 2))), (X 3, .inl (gI g, 24, .inl (V 3))), (X 4, .inl (gI g, 24, .inl (V 4))), (X 5, .inl (gI g, 192, .inl (V 5))), (X 6, .inl (gI g, 24, .inl (V 6))), (X 7, .inl (gI g, 24, .inl (V 7))), (X 8, .inl (gI g, 24, .inl (V 8)))] := hD
  refine lv_aload_n hx hb dX3_changed_0 rfl (lv_at hl 0 rfl) ?_
  refine lv_iconst (v := 0) hx hb dX3_changed_1 (by decide +kernel) ?_
  refine va_put (D := gD g) (ci := 3) (v := .int (0)) (ty := .int) (C := RX3) (T := TX3) (N := 12) hx hb hts iX3 tyX3 tyX3_ok nmX3 hown hK.1 hP hD hS 0 rfl rfl 0 (by decide) f37 (fun _ h9 => h9) rfl (by decide +kernel) rfl rfl (Nat.le_of_ble_eq_true rfl) dX3_changed_2 (fun H locs hP hD hS => ?_)
  have hP : va_P (gD g) vwCl [(h, .inr (3, [.int (0), .int (nI lc), .ref (X 0), .ref (X 1), .int (nI ec), .ref (X 2), .ref (X 3), .ref (X 4), .ref (X 5), .ref (X 6), .ref (X 7), .ref (X 8)])), (X 0, .inl (gI g, 12, .inl (V 0))), (X 1, .inl (gI g, 480, .inl (V 1))), (X 2, .inl (gI g, 24, .inl (V 2))), (X 3, .inl (gI g, 24, .inl (V 3))), (X 4, .inl (gI g, 24, .inl (V 4))), (X 5, .inl (gI g, 192, .inl (V 5))), (X 6, .inl (gI g, 24, .inl (V 6))), (X 7, .inl (gI g, 24, .inl (V 7))), (X 8, .inl (gI g, 24, .inl (V 8)))] H := hP
  have hD : va_D A [(h, .inr (3, [.int (0), .int (nI lc), .ref (X 0), .ref (X 1), .int (nI ec), .ref (X 2), .ref (X 3), .ref (X 4), .ref (X 5), .ref (X 6), .ref (X 7), .ref (X 8)])), (X 0, .inl (gI g, 12, .inl (V 0))), (X 1, .inl (gI g, 480, .inl (V 1))), (X 2, .inl (gI g, 24, .inl (V 2))), (X 3, .inl (gI g, 24, .inl (V 3))), (X 4, .inl (gI g, 24, .inl (V 4))), (X 5, .inl (gI g, 192, .inl (V 5))), (X 6, .inl (gI g, 24, .inl (V 6))), (X 7, .inl (gI g, 24, .inl (V 7))), (X 8, .inl (gI g, 24, .inl (V 8)))] := hD
  refine lv_aload_n hx hb dX3_changed_5 rfl (lv_at hl 0 rfl) ?_
  refine lv_iload_n hx hb dX3_changed_6 rfl (lv_at hl 1 rfl) ?_
  refine lv_iload_n hx hb dX3_changed_7 rfl (lv_at hl 2 rfl) ?_
  refine p_V (As := [.int (nI k), .int (nI j)]) (rest := []) S (c_X3_isPlace l g h X V 0 lc ec NN hlc hec hNN k hk (nI j)) (cwV 2 hts gX3_changed_X3_isPlace rfl rfl rfl (by decide +kernel) ⟨Nat.le_of_ble_eq_true rfl, Nat.le_of_ble_eq_true rfl⟩) hK (va_recv hK.1 hP (ci := 3) (q0 := 0) rfl rfl) (hP) rfl hl.1 rfl (Nat.le_of_ble_eq_true rfl) dX3_changed_8 ⟨Nat.le_of_ble_eq_true rfl, Nat.le_of_ble_eq_true rfl⟩ ?_
  refine br_neB (tgt := 20) hx hb dX3_changed_11 (by decide) (fun c11 => ?_) (fun c11 => ?_)
  · refine lv_aload_n hx hb dX3_changed_20 rfl (lv_at hl 0 rfl) ?_
    refine lv_iload_n hx hb dX3_changed_21 rfl (lv_at hl 1 rfl) ?_
    refine lv_iload_n hx hb dX3_changed_22 rfl (lv_at hl 2 rfl) ?_
    refine p_V (As := [.int (nI k), .int (nI j)]) (rest := []) S (c_X3_at l g h X V 0 lc ec (k) (j) (by omega) (by omega)) (cwV 2 hts gX3_changed_X3_at rfl rfl rfl (by decide +kernel) ⟨Nat.le_of_ble_eq_true rfl, Nat.le_of_ble_eq_true rfl⟩) hK (va_recv hK.1 hP (ci := 3) (q0 := 0) rfl rfl) (hP) rfl hl.1 rfl (Nat.le_of_ble_eq_true rfl) dX3_changed_23 ⟨Nat.le_of_ble_eq_true rfl, Nat.le_of_ble_eq_true rfl⟩ ?_
    refine lv_istore (lv' := [(4, .int ((V 1) (40 * k + j))), (0, .ref (h)), (1, .int (nI k)), (2, .int (nI j)), (3, .int (z))]) hx hb dX3_changed_26 hl (by decide) rfl (fun ls hl => ?_)
    refine lv_iload hx hb dX3_changed_28 (lv_at hl 0 rfl) ?_
    refine lv_iload_n hx hb dX3_changed_30 rfl (lv_at hl 4 rfl) ?_
    refine lv_icmp_ne (tgt := 40) hx hb dX3_changed_31 (by decide) (fun c31 => ?_) (fun c31 => ?_)
    · exact absurd hz c31
    · refine lv_aload_n hx hb dX3_changed_34 rfl (lv_at hl 1 rfl) ?_
      refine lv_iconst (v := 2) hx hb dX3_changed_35 (by decide +kernel) ?_
      refine w_V (As := [.int (2)]) (rest := []) S (c_X3_no l g h X V 0 lc ec (2)) (cwV 1 hts gX3_changed_X3_no rfl rfl rfl (by decide +kernel) ⟨Nat.le_of_ble_eq_true rfl, Nat.le_of_ble_eq_true rfl⟩) hK (va_recv hK.1 hP (ci := 3) (q0 := 0) rfl rfl) hP (hD.weaken (fun _ _ _ _ => trivial)) hS (wA_D hD [0, 1, 2, 3, 4, 5, 6, 7, 8, 9] rfl) rfl hl.1 rfl (Nat.le_of_ble_eq_true rfl) dX3_changed_36 ⟨Nat.le_of_ble_eq_true rfl, Nat.le_of_ble_eq_true rfl⟩ (fun H locs hP1 hz1 hk1 hS => ?_)
      have hP : va_P (gD g) vwCl [(h, .inr (3, [.int (2), .int (nI lc), .ref (X 0), .ref (X 1), .int (nI ec), .ref (X 2), .ref (X 3), .ref (X 4), .ref (X 5), .ref (X 6), .ref (X 7), .ref (X 8)])), (X 0, .inl (gI g, 12, .inl (V 0))), (X 1, .inl (gI g, 480, .inl (V 1))), (X 2, .inl (gI g, 24, .inl (V 2))), (X 3, .inl (gI g, 24, .inl (V 3))), (X 4, .inl (gI g, 24, .inl (V 4))), (X 5, .inl (gI g, 192, .inl (V 5))), (X 6, .inl (gI g, 24, .inl (V 6))), (X 7, .inl (gI g, 24, .inl (V 7))), (X 8, .inl (gI g, 24, .inl (V 8)))] H := hP1
      have hD : va_D A [(h, .inr (3, [.int (2), .int (nI lc), .ref (X 0), .ref (X 1), .int (nI ec), .ref (X 2), .ref (X 3), .ref (X 4), .ref (X 5), .ref (X 6), .ref (X 7), .ref (X 8)])), (X 0, .inl (gI g, 12, .inl (V 0))), (X 1, .inl (gI g, 480, .inl (V 1))), (X 2, .inl (gI g, 24, .inl (V 2))), (X 3, .inl (gI g, 24, .inl (V 3))), (X 4, .inl (gI g, 24, .inl (V 4))), (X 5, .inl (gI g, 192, .inl (V 5))), (X 6, .inl (gI g, 24, .inl (V 6))), (X 7, .inl (gI g, 24, .inl (V 7))), (X 8, .inl (gI g, 24, .inl (V 8)))] := D_same hD rfl
      exact hret _ _ _ _ hP hS dX3_changed_39
  · exact absurd c11 (by rw [hgj]; decide)

set_option maxHeartbeats 4000000 in
set_option maxRecDepth 100000 in
/-- forge_2 -/
theorem c_X3_forge_2 (l : Launch) (g : gT) (h : Nat) (X : Nat → Nat) (V : Nat → Nat → Int32) (th : Int32) (lc ec : Nat) (NN : Nat → Nat) (hlc : lc ≤ 12) (hec : ec ≤ 24) (hNN : ∀ i, i < lc → V 0 i = nI (NN i) ∧ NN i ≤ 40) (k : Nat) (hk : k < lc) (j : Nat) (hj : j < NN k) (hz : V 1 (40 * k + j) = 27) : wM g l yX3_forge wsX3_forge { frames := 4, cells := 0, slots := 0, locals := 89 } [.ref (h), .int (nI k), .int (nI j)] (mdW g h X V th lc ec) (some (.int (0))) (mdW g h X V 2 lc ec) := by
  refine wr_ofI (cc := cX3_forge) (maxL := 3) (by decide) rfl (Nat.le_of_ble_eq_true rfl) ?_
  intro p e s m args below meth c H0 ls A Q hx hb hml hts hown hK hP hD hS hl hret
  have hl : lv_has ls 3 [(0, .ref (h)), (1, .int (nI k)), (2, .int (nI j))] := hl
  have S : CallFix p m c cX3_forge 3 s args wsX3_forge RX3 := ⟨hx, hb, hml, hown, hts⟩
  obtain ⟨H, eH⟩ : ∃ H : Heap, H = H0 := ⟨_, rfl⟩
  rw [← eH] at hP ⊢
  have hS : va_S A H0 H [] := by rw [eH]; exact hS
  have hP : va_P (gD g) vwCl [(h, .inr (3, [.int (th), .int (nI lc), .ref (X 0), .ref (X 1), .int (nI ec), .ref (X 2), .ref (X 3), .ref (X 4), .ref (X 5), .ref (X 6), .ref (X 7), .ref (X 8)])), (X 0, .inl (gI g, 12, .inl (V 0))), (X 1, .inl (gI g, 480, .inl (V 1))), (X 2, .inl (gI g, 24, .inl (V 2))), (X 3, .inl (gI g, 24, .inl (V 3))), (X 4, .inl (gI g, 24, .inl (V 4))), (X 5, .inl (gI g, 192, .inl (V 5))), (X 6, .inl (gI g, 24, .inl (V 6))), (X 7, .inl (gI g, 24, .inl (V 7))), (X 8, .inl (gI g, 24, .inl (V 8)))] H := hP
  have hD : va_D A [(h, .inr (3, [.int (th), .int (nI lc), .ref (X 0), .ref (X 1), .int (nI ec), .ref (X 2), .ref (X 3), .ref (X 4), .ref (X 5), .ref (X 6), .ref (X 7), .ref (X 8)])), (X 0, .inl (gI g, 12, .inl (V 0))), (X 1, .inl (gI g, 480, .inl (V 1))), (X 2, .inl (gI g, 24, .inl (V 2))), (X 3, .inl (gI g, 24, .inl (V 3))), (X 4, .inl (gI g, 24, .inl (V 4))), (X 5, .inl (gI g, 192, .inl (V 5))), (X 6, .inl (gI g, 24, .inl (V 6))), (X 7, .inl (gI g, 24, .inl (V 7))), (X 8, .inl (gI g, 24, .inl (V 8)))] := hD
  refine lv_aload_n hx hb dX3_forge_0 rfl (lv_at hl 0 rfl) ?_
  refine lv_iload_n hx hb dX3_forge_1 rfl (lv_at hl 1 rfl) ?_
  refine lv_iload_n hx hb dX3_forge_2 rfl (lv_at hl 2 rfl) ?_
  refine lv_bipush (v := 27) hx hb dX3_forge_3 (by decide +kernel) ?_
  refine w_V (As := [.int (nI k), .int (nI j), .int (27)]) (rest := []) S (c_X3_changed_2 l g h X V th lc ec NN hlc hec hNN k hk j hj 27 hz) (cwV 3 hts gX3_forge_X3_changed rfl rfl rfl (by decide +kernel) ⟨Nat.le_of_ble_eq_true rfl, Nat.le_of_ble_eq_true rfl⟩) hK (va_recv hK.1 hP (ci := 3) (q0 := 0) rfl rfl) hP (hD.weaken (fun _ _ _ _ => trivial)) hS (wA_D hD [0, 1, 2, 3, 4, 5, 6, 7, 8, 9] rfl) rfl hl.1 rfl (Nat.le_of_ble_eq_true rfl) dX3_forge_5 ⟨Nat.le_of_ble_eq_true rfl, Nat.le_of_ble_eq_true rfl⟩ (fun H locs hP1 hz1 hk1 hS => ?_)
  have hP : va_P (gD g) vwCl [(h, .inr (3, [.int (2), .int (nI lc), .ref (X 0), .ref (X 1), .int (nI ec), .ref (X 2), .ref (X 3), .ref (X 4), .ref (X 5), .ref (X 6), .ref (X 7), .ref (X 8)])), (X 0, .inl (gI g, 12, .inl (V 0))), (X 1, .inl (gI g, 480, .inl (V 1))), (X 2, .inl (gI g, 24, .inl (V 2))), (X 3, .inl (gI g, 24, .inl (V 3))), (X 4, .inl (gI g, 24, .inl (V 4))), (X 5, .inl (gI g, 192, .inl (V 5))), (X 6, .inl (gI g, 24, .inl (V 6))), (X 7, .inl (gI g, 24, .inl (V 7))), (X 8, .inl (gI g, 24, .inl (V 8)))] H := hP1
  have hD : va_D A [(h, .inr (3, [.int (2), .int (nI lc), .ref (X 0), .ref (X 1), .int (nI ec), .ref (X 2), .ref (X 3), .ref (X 4), .ref (X 5), .ref (X 6), .ref (X 7), .ref (X 8)])), (X 0, .inl (gI g, 12, .inl (V 0))), (X 1, .inl (gI g, 480, .inl (V 1))), (X 2, .inl (gI g, 24, .inl (V 2))), (X 3, .inl (gI g, 24, .inl (V 3))), (X 4, .inl (gI g, 24, .inl (V 4))), (X 5, .inl (gI g, 192, .inl (V 5))), (X 6, .inl (gI g, 24, .inl (V 6))), (X 7, .inl (gI g, 24, .inl (V 7))), (X 8, .inl (gI g, 24, .inl (V 8)))] := D_same hD rfl
  exact hret _ _ _ _ hP hS dX3_forge_8

set_option maxHeartbeats 4000000 in
set_option maxRecDepth 100000 in
/-- tear_2 -/
theorem c_X3_tear_2 (l : Launch) (g : gT) (h : Nat) (X : Nat → Nat) (V : Nat → Nat → Int32) (th : Int32) (lc ec : Nat) (NN : Nat → Nat) (hlc : lc ≤ 12) (hec : ec ≤ 24) (hNN : ∀ i, i < lc → V 0 i = nI (NN i) ∧ NN i ≤ 40) (k : Nat) (hk : k < lc) (j : Nat) (hj : j < NN k) (hz : V 1 (40 * k + j) = 30) : wM g l yX3_tear wsX3_tear { frames := 4, cells := 0, slots := 0, locals := 89 } [.ref (h), .int (nI k), .int (nI j)] (mdW g h X V th lc ec) (some (.int (0))) (mdW g h X V 2 lc ec) := by
  refine wr_ofI (cc := cX3_tear) (maxL := 3) (by decide) rfl (Nat.le_of_ble_eq_true rfl) ?_
  intro p e s m args below meth c H0 ls A Q hx hb hml hts hown hK hP hD hS hl hret
  have hl : lv_has ls 3 [(0, .ref (h)), (1, .int (nI k)), (2, .int (nI j))] := hl
  have S : CallFix p m c cX3_tear 3 s args wsX3_tear RX3 := ⟨hx, hb, hml, hown, hts⟩
  obtain ⟨H, eH⟩ : ∃ H : Heap, H = H0 := ⟨_, rfl⟩
  rw [← eH] at hP ⊢
  have hS : va_S A H0 H [] := by rw [eH]; exact hS
  have hP : va_P (gD g) vwCl [(h, .inr (3, [.int (th), .int (nI lc), .ref (X 0), .ref (X 1), .int (nI ec), .ref (X 2), .ref (X 3), .ref (X 4), .ref (X 5), .ref (X 6), .ref (X 7), .ref (X 8)])), (X 0, .inl (gI g, 12, .inl (V 0))), (X 1, .inl (gI g, 480, .inl (V 1))), (X 2, .inl (gI g, 24, .inl (V 2))), (X 3, .inl (gI g, 24, .inl (V 3))), (X 4, .inl (gI g, 24, .inl (V 4))), (X 5, .inl (gI g, 192, .inl (V 5))), (X 6, .inl (gI g, 24, .inl (V 6))), (X 7, .inl (gI g, 24, .inl (V 7))), (X 8, .inl (gI g, 24, .inl (V 8)))] H := hP
  have hD : va_D A [(h, .inr (3, [.int (th), .int (nI lc), .ref (X 0), .ref (X 1), .int (nI ec), .ref (X 2), .ref (X 3), .ref (X 4), .ref (X 5), .ref (X 6), .ref (X 7), .ref (X 8)])), (X 0, .inl (gI g, 12, .inl (V 0))), (X 1, .inl (gI g, 480, .inl (V 1))), (X 2, .inl (gI g, 24, .inl (V 2))), (X 3, .inl (gI g, 24, .inl (V 3))), (X 4, .inl (gI g, 24, .inl (V 4))), (X 5, .inl (gI g, 192, .inl (V 5))), (X 6, .inl (gI g, 24, .inl (V 6))), (X 7, .inl (gI g, 24, .inl (V 7))), (X 8, .inl (gI g, 24, .inl (V 8)))] := hD
  refine lv_aload_n hx hb dX3_tear_0 rfl (lv_at hl 0 rfl) ?_
  refine lv_iload_n hx hb dX3_tear_1 rfl (lv_at hl 1 rfl) ?_
  refine lv_iload_n hx hb dX3_tear_2 rfl (lv_at hl 2 rfl) ?_
  refine lv_bipush (v := 30) hx hb dX3_tear_3 (by decide +kernel) ?_
  refine w_V (As := [.int (nI k), .int (nI j), .int (30)]) (rest := []) S (c_X3_changed_2 l g h X V th lc ec NN hlc hec hNN k hk j hj 30 hz) (cwV 3 hts gX3_tear_X3_changed rfl rfl rfl (by decide +kernel) ⟨Nat.le_of_ble_eq_true rfl, Nat.le_of_ble_eq_true rfl⟩) hK (va_recv hK.1 hP (ci := 3) (q0 := 0) rfl rfl) hP (hD.weaken (fun _ _ _ _ => trivial)) hS (wA_D hD [0, 1, 2, 3, 4, 5, 6, 7, 8, 9] rfl) rfl hl.1 rfl (Nat.le_of_ble_eq_true rfl) dX3_tear_5 ⟨Nat.le_of_ble_eq_true rfl, Nat.le_of_ble_eq_true rfl⟩ (fun H locs hP1 hz1 hk1 hS => ?_)
  have hP : va_P (gD g) vwCl [(h, .inr (3, [.int (2), .int (nI lc), .ref (X 0), .ref (X 1), .int (nI ec), .ref (X 2), .ref (X 3), .ref (X 4), .ref (X 5), .ref (X 6), .ref (X 7), .ref (X 8)])), (X 0, .inl (gI g, 12, .inl (V 0))), (X 1, .inl (gI g, 480, .inl (V 1))), (X 2, .inl (gI g, 24, .inl (V 2))), (X 3, .inl (gI g, 24, .inl (V 3))), (X 4, .inl (gI g, 24, .inl (V 4))), (X 5, .inl (gI g, 192, .inl (V 5))), (X 6, .inl (gI g, 24, .inl (V 6))), (X 7, .inl (gI g, 24, .inl (V 7))), (X 8, .inl (gI g, 24, .inl (V 8)))] H := hP1
  have hD : va_D A [(h, .inr (3, [.int (2), .int (nI lc), .ref (X 0), .ref (X 1), .int (nI ec), .ref (X 2), .ref (X 3), .ref (X 4), .ref (X 5), .ref (X 6), .ref (X 7), .ref (X 8)])), (X 0, .inl (gI g, 12, .inl (V 0))), (X 1, .inl (gI g, 480, .inl (V 1))), (X 2, .inl (gI g, 24, .inl (V 2))), (X 3, .inl (gI g, 24, .inl (V 3))), (X 4, .inl (gI g, 24, .inl (V 4))), (X 5, .inl (gI g, 192, .inl (V 5))), (X 6, .inl (gI g, 24, .inl (V 6))), (X 7, .inl (gI g, 24, .inl (V 7))), (X 8, .inl (gI g, 24, .inl (V 8)))] := D_same hD rfl
  exact hret _ _ _ _ hP hS dX3_tear_8

set_option maxHeartbeats 4000000 in
set_option maxRecDepth 100000 in
/-- mend -/
theorem c_X3_mend (l : Launch) (g : gT) (h : Nat) (X : Nat → Nat) (V : Nat → Nat → Int32) (th : Int32) (lc ec : Nat) (NN : Nat → Nat) (hlc : lc ≤ 12) (hec : ec ≤ 24) (hNN : ∀ i, i < lc → V 0 i = nI (NN i) ∧ NN i ≤ 40) (k : Nat) (hk : k < lc) (j : Nat) (hj : j < NN k) (x : Int32) (hs : (decide (0 ≤ x) && decide (x ≤ 29)) = true) (hz : V 1 (40 * k + j) = 30) : wM g l yX3_mend wsX3_mend { frames := 3, cells := 0, slots := 0, locals := 65 } [.ref (h), .int (nI k), .int (nI j), .int (x)] (mdW g h X V th lc ec) (some (.int (cntF (rwV (vup V 1 (upd (V 1) (40 * k + j) x)) k) 30 (NN k)))) (mdW g h X (vup V 1 (upd (V 1) (40 * k + j) x)) 0 lc ec) := by
  refine wr_ofI (cc := cX3_mend) (maxL := 4) (by decide) rfl (Nat.le_of_ble_eq_true rfl) ?_
  intro p e s m args below meth c H0 ls A Q hx hb hml hts hown hK hP hD hS hl hret
  have hl : lv_has ls 4 [(0, .ref (h)), (1, .int (nI k)), (2, .int (nI j)), (3, .int (x))] := hl
  have S : CallFix p m c cX3_mend 4 s args wsX3_mend RX3 := ⟨hx, hb, hml, hown, hts⟩
  have hgk : inB (nI k) lc = true := inB_nI hk (by omega)
  have hVn := (hNN k hk).1
  have hn := (hNN k hk).2
  have hgj : inB (nI j) (NN k) = true := inB_nI hj (by omega)
  have iX3 : ∀ w ∈ u_ws RX3 TX3 12, w ∈ wsX3_mend := by decide +kernel
  have f13 := hts (.fieldLink RX3 13 "LetterSealsModel" "sign" "[I") (by decide +kernel)
  have f37 := hts (.fieldLink RX3 37 "LetterSealsModel" "thrown" "I") (by decide +kernel)
  obtain ⟨H, eH⟩ : ∃ H : Heap, H = H0 := ⟨_, rfl⟩
  rw [← eH] at hP ⊢
  have hS : va_S A H0 H [] := by rw [eH]; exact hS
  have hP : va_P (gD g) vwCl [(h, .inr (3, [.int (th), .int (nI lc), .ref (X 0), .ref (X 1), .int (nI ec), .ref (X 2), .ref (X 3), .ref (X 4), .ref (X 5), .ref (X 6), .ref (X 7), .ref (X 8)])), (X 0, .inl (gI g, 12, .inl (V 0))), (X 1, .inl (gI g, 480, .inl (V 1))), (X 2, .inl (gI g, 24, .inl (V 2))), (X 3, .inl (gI g, 24, .inl (V 3))), (X 4, .inl (gI g, 24, .inl (V 4))), (X 5, .inl (gI g, 192, .inl (V 5))), (X 6, .inl (gI g, 24, .inl (V 6))), (X 7, .inl (gI g, 24, .inl (V 7))), (X 8, .inl (gI g, 24, .inl (V 8)))] H := hP
  have hD : va_D A [(h, .inr (3, [.int (th), .int (nI lc), .ref (X 0), .ref (X 1), .int (nI ec), .ref (X 2), .ref (X 3), .ref (X 4), .ref (X 5), .ref (X 6), .ref (X 7), .ref (X 8)])), (X 0, .inl (gI g, 12, .inl (V 0))), (X 1, .inl (gI g, 480, .inl (V 1))), (X 2, .inl (gI g, 24, .inl (V 2))), (X 3, .inl (gI g, 24, .inl (V 3))), (X 4, .inl (gI g, 24, .inl (V 4))), (X 5, .inl (gI g, 192, .inl (V 5))), (X 6, .inl (gI g, 24, .inl (V 6))), (X 7, .inl (gI g, 24, .inl (V 7))), (X 8, .inl (gI g, 24, .inl (V 8)))] := hD
  refine lv_aload_n hx hb dX3_mend_0 rfl (lv_at hl 0 rfl) ?_
  refine lv_iconst (v := 0) hx hb dX3_mend_1 (by decide +kernel) ?_
  refine va_put (D := gD g) (ci := 3) (v := .int (0)) (ty := .int) (C := RX3) (T := TX3) (N := 12) hx hb hts iX3 tyX3 tyX3_ok nmX3 hown hK.1 hP hD hS 0 rfl rfl 0 (by decide) f37 (fun _ h9 => h9) rfl (by decide +kernel) rfl rfl (Nat.le_of_ble_eq_true rfl) dX3_mend_2 (fun H locs hP hD hS => ?_)
  have hP : va_P (gD g) vwCl [(h, .inr (3, [.int (0), .int (nI lc), .ref (X 0), .ref (X 1), .int (nI ec), .ref (X 2), .ref (X 3), .ref (X 4), .ref (X 5), .ref (X 6), .ref (X 7), .ref (X 8)])), (X 0, .inl (gI g, 12, .inl (V 0))), (X 1, .inl (gI g, 480, .inl (V 1))), (X 2, .inl (gI g, 24, .inl (V 2))), (X 3, .inl (gI g, 24, .inl (V 3))), (X 4, .inl (gI g, 24, .inl (V 4))), (X 5, .inl (gI g, 192, .inl (V 5))), (X 6, .inl (gI g, 24, .inl (V 6))), (X 7, .inl (gI g, 24, .inl (V 7))), (X 8, .inl (gI g, 24, .inl (V 8)))] H := hP
  have hD : va_D A [(h, .inr (3, [.int (0), .int (nI lc), .ref (X 0), .ref (X 1), .int (nI ec), .ref (X 2), .ref (X 3), .ref (X 4), .ref (X 5), .ref (X 6), .ref (X 7), .ref (X 8)])), (X 0, .inl (gI g, 12, .inl (V 0))), (X 1, .inl (gI g, 480, .inl (V 1))), (X 2, .inl (gI g, 24, .inl (V 2))), (X 3, .inl (gI g, 24, .inl (V 3))), (X 4, .inl (gI g, 24, .inl (V 4))), (X 5, .inl (gI g, 192, .inl (V 5))), (X 6, .inl (gI g, 24, .inl (V 6))), (X 7, .inl (gI g, 24, .inl (V 7))), (X 8, .inl (gI g, 24, .inl (V 8)))] := hD
  refine lv_aload_n hx hb dX3_mend_5 rfl (lv_at hl 0 rfl) ?_
  refine lv_iload_n hx hb dX3_mend_6 rfl (lv_at hl 1 rfl) ?_
  refine lv_iload_n hx hb dX3_mend_7 rfl (lv_at hl 2 rfl) ?_
  refine p_V (As := [.int (nI k), .int (nI j)]) (rest := []) S (c_X3_isPlace l g h X V 0 lc ec NN hlc hec hNN k hk (nI j)) (cwV 2 hts gX3_mend_X3_isPlace rfl rfl rfl (by decide +kernel) ⟨Nat.le_of_ble_eq_true rfl, Nat.le_of_ble_eq_true rfl⟩) hK (va_recv hK.1 hP (ci := 3) (q0 := 0) rfl rfl) (hP) rfl hl.1 rfl (Nat.le_of_ble_eq_true rfl) dX3_mend_8 ⟨Nat.le_of_ble_eq_true rfl, Nat.le_of_ble_eq_true rfl⟩ ?_
  refine br_neB (tgt := 20) hx hb dX3_mend_11 (by decide) (fun c11 => ?_) (fun c11 => ?_)
  · refine lv_iload_n hx hb dX3_mend_20 rfl (lv_at hl 3 rfl) ?_
    refine lv_iconst (v := 0) hx hb dX3_mend_21 (by decide +kernel) ?_
    refine lv_bipush (v := 29) hx hb dX3_mend_22 (by decide +kernel) ?_
    refine p_S (As := [.int (x), .int (0), .int (29)]) (rest := []) S (c_X3_isFrom l g (x) (0) (29)) (cwS 3 hts gX3_mend_X3_isFrom rfl rfl rfl (by decide +kernel) ⟨Nat.le_of_ble_eq_true rfl, Nat.le_of_ble_eq_true rfl⟩) hK (trivial) rfl hl.1 rfl (Nat.le_of_ble_eq_true rfl) dX3_mend_24 ⟨Nat.le_of_ble_eq_true rfl, Nat.le_of_ble_eq_true rfl⟩ ?_
    refine br_neB (tgt := 36) hx hb dX3_mend_27 (by decide) (fun c27 => ?_) (fun c27 => ?_)
    · refine lv_aload_n hx hb dX3_mend_36 rfl (lv_at hl 0 rfl) ?_
      refine lv_iload_n hx hb dX3_mend_37 rfl (lv_at hl 1 rfl) ?_
      refine lv_iload_n hx hb dX3_mend_38 rfl (lv_at hl 2 rfl) ?_
      refine p_V (As := [.int (nI k), .int (nI j)]) (rest := []) S (c_X3_at l g h X V 0 lc ec (k) (j) (by omega) (by omega)) (cwV 2 hts gX3_mend_X3_at rfl rfl rfl (by decide +kernel) ⟨Nat.le_of_ble_eq_true rfl, Nat.le_of_ble_eq_true rfl⟩) hK (va_recv hK.1 hP (ci := 3) (q0 := 0) rfl rfl) (hP) rfl hl.1 rfl (Nat.le_of_ble_eq_true rfl) dX3_mend_39 ⟨Nat.le_of_ble_eq_true rfl, Nat.le_of_ble_eq_true rfl⟩ ?_
      refine lv_bipush (v := 30) hx hb dX3_mend_42 (by decide +kernel) ?_
      refine lv_icmp_eq (tgt := 53) hx hb dX3_mend_44 (by decide) (fun c44 => ?_) (fun c44 => ?_)
      · refine lv_aload_n hx hb dX3_mend_53 rfl (lv_at hl 0 rfl) ?_
        refine va_get (D := gD g) (ci := 3) (v := .ref (X 1)) (C := RX3) (T := TX3) (N := 12) hx hb hts iX3 hown hK.1 hP 0 rfl rfl 3 (by decide) f13 (fun _ h9 => h9) rfl dX3_mend_54 ?_
        refine lv_bipush (v := nI (40)) hx hb dX3_mend_57 (by decide +kernel) ?_
        refine lv_iload_n hx hb dX3_mend_59 rfl (lv_at hl 1 rfl) ?_
        refine lv_imul hx hb dX3_mend_60 ?_
        refine lv_toI (z := nI (40 * k)) (pk_mul _ _) ?_
        refine lv_iload_n hx hb dX3_mend_61 rfl (lv_at hl 2 rfl) ?_
        refine lv_iadd hx hb dX3_mend_62 ?_
        refine lv_toI (z := nI (40 * k + j)) (nI_add _ _) ?_
        refine lv_iload_n hx hb dX3_mend_63 rfl (lv_at hl 3 rfl) ?_
        refine st_I (k := 40 * k + j) (n := 480) (f := V 1) (x := x) hx hb hK.1 hP hD hS 2 rfl (by omega) (by omega) dX3_mend_64 (fun H locs hP hD hS => ?_)
        have hP : va_P (gD g) vwCl [(h, .inr (3, [.int (0), .int (nI lc), .ref (X 0), .ref (X 1), .int (nI ec), .ref (X 2), .ref (X 3), .ref (X 4), .ref (X 5), .ref (X 6), .ref (X 7), .ref (X 8)])), (X 0, .inl (gI g, 12, .inl (V 0))), (X 1, .inl (gI g, 480, .inl (upd (V 1) (40 * k + j) (x)))), (X 2, .inl (gI g, 24, .inl (V 2))), (X 3, .inl (gI g, 24, .inl (V 3))), (X 4, .inl (gI g, 24, .inl (V 4))), (X 5, .inl (gI g, 192, .inl (V 5))), (X 6, .inl (gI g, 24, .inl (V 6))), (X 7, .inl (gI g, 24, .inl (V 7))), (X 8, .inl (gI g, 24, .inl (V 8)))] H := hP
        have hD : va_D A [(h, .inr (3, [.int (0), .int (nI lc), .ref (X 0), .ref (X 1), .int (nI ec), .ref (X 2), .ref (X 3), .ref (X 4), .ref (X 5), .ref (X 6), .ref (X 7), .ref (X 8)])), (X 0, .inl (gI g, 12, .inl (V 0))), (X 1, .inl (gI g, 480, .inl (upd (V 1) (40 * k + j) (x)))), (X 2, .inl (gI g, 24, .inl (V 2))), (X 3, .inl (gI g, 24, .inl (V 3))), (X 4, .inl (gI g, 24, .inl (V 4))), (X 5, .inl (gI g, 192, .inl (V 5))), (X 6, .inl (gI g, 24, .inl (V 6))), (X 7, .inl (gI g, 24, .inl (V 7))), (X 8, .inl (gI g, 24, .inl (V 8)))] := hD
        refine lv_aload_n hx hb dX3_mend_65 rfl (lv_at hl 0 rfl) ?_
        refine lv_iload_n hx hb dX3_mend_66 rfl (lv_at hl 1 rfl) ?_
        refine lv_bipush (v := 30) hx hb dX3_mend_67 (by decide +kernel) ?_
        refine p_V (As := [.int (nI k), .int (30)]) (rest := []) S (c_X3_count l g h X (vup V 1 (upd (V 1) (40 * k + j) (x))) 0 lc ec NN hlc hec hNN k hk 30) (cwV 2 hts gX3_mend_X3_count rfl rfl rfl (by decide +kernel) ⟨Nat.le_of_ble_eq_true rfl, Nat.le_of_ble_eq_true rfl⟩) hK (va_recv hK.1 hP (ci := 3) (q0 := 0) rfl rfl) (hP) rfl hl.1 rfl (Nat.le_of_ble_eq_true rfl) dX3_mend_69 ⟨Nat.le_of_ble_eq_true rfl, Nat.le_of_ble_eq_true rfl⟩ ?_
        exact hret _ _ _ _ hP hS dX3_mend_72
      · exact absurd hz c44
    · exact absurd c27 (by rw [hs]; decide)
  · exact absurd c11 (by rw [hgj]; decide)

set_option maxHeartbeats 4000000 in
set_option maxRecDepth 100000 in
/-- mend_1 -/
theorem c_X3_mend_1 (l : Launch) (g : gT) (h : Nat) (X : Nat → Nat) (V : Nat → Nat → Int32) (th : Int32) (lc ec : Nat) (hlc : lc ≤ 12) (hec : ec ≤ 24) (x : Int32) (hxb : inB x lc = false) (y z : Int32) : wM g l yX3_mend wsX3_mend { frames := 3, cells := 0, slots := 0, locals := 65 } [.ref (h), .int (x), .int (y), .int (z)] (mdW g h X V th lc ec) (some (.int (0))) (mdW g h X V 1 lc ec) := by
  refine wr_ofI (cc := cX3_mend) (maxL := 4) (by decide) rfl (Nat.le_of_ble_eq_true rfl) ?_
  intro p e s m args below meth c H0 ls A Q hx hb hml hts hown hK hP hD hS hl hret
  have hl : lv_has ls 4 [(0, .ref (h)), (1, .int (x)), (2, .int (y)), (3, .int (z))] := hl
  have S : CallFix p m c cX3_mend 4 s args wsX3_mend RX3 := ⟨hx, hb, hml, hown, hts⟩
  have iX3 : ∀ w ∈ u_ws RX3 TX3 12, w ∈ wsX3_mend := by decide +kernel
  have f37 := hts (.fieldLink RX3 37 "LetterSealsModel" "thrown" "I") (by decide +kernel)
  obtain ⟨H, eH⟩ : ∃ H : Heap, H = H0 := ⟨_, rfl⟩
  rw [← eH] at hP ⊢
  have hS : va_S A H0 H [] := by rw [eH]; exact hS
  have hP : va_P (gD g) vwCl [(h, .inr (3, [.int (th), .int (nI lc), .ref (X 0), .ref (X 1), .int (nI ec), .ref (X 2), .ref (X 3), .ref (X 4), .ref (X 5), .ref (X 6), .ref (X 7), .ref (X 8)])), (X 0, .inl (gI g, 12, .inl (V 0))), (X 1, .inl (gI g, 480, .inl (V 1))), (X 2, .inl (gI g, 24, .inl (V 2))), (X 3, .inl (gI g, 24, .inl (V 3))), (X 4, .inl (gI g, 24, .inl (V 4))), (X 5, .inl (gI g, 192, .inl (V 5))), (X 6, .inl (gI g, 24, .inl (V 6))), (X 7, .inl (gI g, 24, .inl (V 7))), (X 8, .inl (gI g, 24, .inl (V 8)))] H := hP
  have hD : va_D A [(h, .inr (3, [.int (th), .int (nI lc), .ref (X 0), .ref (X 1), .int (nI ec), .ref (X 2), .ref (X 3), .ref (X 4), .ref (X 5), .ref (X 6), .ref (X 7), .ref (X 8)])), (X 0, .inl (gI g, 12, .inl (V 0))), (X 1, .inl (gI g, 480, .inl (V 1))), (X 2, .inl (gI g, 24, .inl (V 2))), (X 3, .inl (gI g, 24, .inl (V 3))), (X 4, .inl (gI g, 24, .inl (V 4))), (X 5, .inl (gI g, 192, .inl (V 5))), (X 6, .inl (gI g, 24, .inl (V 6))), (X 7, .inl (gI g, 24, .inl (V 7))), (X 8, .inl (gI g, 24, .inl (V 8)))] := hD
  refine lv_aload_n hx hb dX3_mend_0 rfl (lv_at hl 0 rfl) ?_
  refine lv_iconst (v := 0) hx hb dX3_mend_1 (by decide +kernel) ?_
  refine va_put (D := gD g) (ci := 3) (v := .int (0)) (ty := .int) (C := RX3) (T := TX3) (N := 12) hx hb hts iX3 tyX3 tyX3_ok nmX3 hown hK.1 hP hD hS 0 rfl rfl 0 (by decide) f37 (fun _ h9 => h9) rfl (by decide +kernel) rfl rfl (Nat.le_of_ble_eq_true rfl) dX3_mend_2 (fun H locs hP hD hS => ?_)
  have hP : va_P (gD g) vwCl [(h, .inr (3, [.int (0), .int (nI lc), .ref (X 0), .ref (X 1), .int (nI ec), .ref (X 2), .ref (X 3), .ref (X 4), .ref (X 5), .ref (X 6), .ref (X 7), .ref (X 8)])), (X 0, .inl (gI g, 12, .inl (V 0))), (X 1, .inl (gI g, 480, .inl (V 1))), (X 2, .inl (gI g, 24, .inl (V 2))), (X 3, .inl (gI g, 24, .inl (V 3))), (X 4, .inl (gI g, 24, .inl (V 4))), (X 5, .inl (gI g, 192, .inl (V 5))), (X 6, .inl (gI g, 24, .inl (V 6))), (X 7, .inl (gI g, 24, .inl (V 7))), (X 8, .inl (gI g, 24, .inl (V 8)))] H := hP
  have hD : va_D A [(h, .inr (3, [.int (0), .int (nI lc), .ref (X 0), .ref (X 1), .int (nI ec), .ref (X 2), .ref (X 3), .ref (X 4), .ref (X 5), .ref (X 6), .ref (X 7), .ref (X 8)])), (X 0, .inl (gI g, 12, .inl (V 0))), (X 1, .inl (gI g, 480, .inl (V 1))), (X 2, .inl (gI g, 24, .inl (V 2))), (X 3, .inl (gI g, 24, .inl (V 3))), (X 4, .inl (gI g, 24, .inl (V 4))), (X 5, .inl (gI g, 192, .inl (V 5))), (X 6, .inl (gI g, 24, .inl (V 6))), (X 7, .inl (gI g, 24, .inl (V 7))), (X 8, .inl (gI g, 24, .inl (V 8)))] := hD
  refine lv_aload_n hx hb dX3_mend_5 rfl (lv_at hl 0 rfl) ?_
  refine lv_iload_n hx hb dX3_mend_6 rfl (lv_at hl 1 rfl) ?_
  refine lv_iload_n hx hb dX3_mend_7 rfl (lv_at hl 2 rfl) ?_
  refine p_V (As := [.int (x), .int (y)]) (rest := []) S (c_X3_isPlace0 l g h X V 0 lc ec (x) (y) hlc hec hxb) (cwV 2 hts gX3_mend_X3_isPlace rfl rfl rfl (by decide +kernel) ⟨Nat.le_of_ble_eq_true rfl, Nat.le_of_ble_eq_true rfl⟩) hK (va_recv hK.1 hP (ci := 3) (q0 := 0) rfl rfl) (hP) rfl hl.1 rfl (Nat.le_of_ble_eq_true rfl) dX3_mend_8 ⟨Nat.le_of_ble_eq_true rfl, Nat.le_of_ble_eq_true rfl⟩ ?_
  refine br_neB (tgt := 20) hx hb dX3_mend_11 (by decide) (fun c11 => ?_) (fun c11 => ?_)
  · exact absurd c11 (by decide)
  · refine lv_aload_n hx hb dX3_mend_14 rfl (lv_at hl 0 rfl) ?_
    refine lv_iconst (v := 1) hx hb dX3_mend_15 (by decide +kernel) ?_
    refine w_V (As := [.int (1)]) (rest := []) S (c_X3_no l g h X V 0 lc ec (1)) (cwV 1 hts gX3_mend_X3_no rfl rfl rfl (by decide +kernel) ⟨Nat.le_of_ble_eq_true rfl, Nat.le_of_ble_eq_true rfl⟩) hK (va_recv hK.1 hP (ci := 3) (q0 := 0) rfl rfl) hP (hD.weaken (fun _ _ _ _ => trivial)) hS (wA_D hD [0, 1, 2, 3, 4, 5, 6, 7, 8, 9] rfl) rfl hl.1 rfl (Nat.le_of_ble_eq_true rfl) dX3_mend_16 ⟨Nat.le_of_ble_eq_true rfl, Nat.le_of_ble_eq_true rfl⟩ (fun H locs hP1 hz1 hk1 hS => ?_)
    have hP : va_P (gD g) vwCl [(h, .inr (3, [.int (1), .int (nI lc), .ref (X 0), .ref (X 1), .int (nI ec), .ref (X 2), .ref (X 3), .ref (X 4), .ref (X 5), .ref (X 6), .ref (X 7), .ref (X 8)])), (X 0, .inl (gI g, 12, .inl (V 0))), (X 1, .inl (gI g, 480, .inl (V 1))), (X 2, .inl (gI g, 24, .inl (V 2))), (X 3, .inl (gI g, 24, .inl (V 3))), (X 4, .inl (gI g, 24, .inl (V 4))), (X 5, .inl (gI g, 192, .inl (V 5))), (X 6, .inl (gI g, 24, .inl (V 6))), (X 7, .inl (gI g, 24, .inl (V 7))), (X 8, .inl (gI g, 24, .inl (V 8)))] H := hP1
    have hD : va_D A [(h, .inr (3, [.int (1), .int (nI lc), .ref (X 0), .ref (X 1), .int (nI ec), .ref (X 2), .ref (X 3), .ref (X 4), .ref (X 5), .ref (X 6), .ref (X 7), .ref (X 8)])), (X 0, .inl (gI g, 12, .inl (V 0))), (X 1, .inl (gI g, 480, .inl (V 1))), (X 2, .inl (gI g, 24, .inl (V 2))), (X 3, .inl (gI g, 24, .inl (V 3))), (X 4, .inl (gI g, 24, .inl (V 4))), (X 5, .inl (gI g, 192, .inl (V 5))), (X 6, .inl (gI g, 24, .inl (V 6))), (X 7, .inl (gI g, 24, .inl (V 7))), (X 8, .inl (gI g, 24, .inl (V 8)))] := D_same hD rfl
    exact hret _ _ _ _ hP hS dX3_mend_19

set_option maxHeartbeats 4000000 in
set_option maxRecDepth 100000 in
/-- mend_1b -/
theorem c_X3_mend_1b (l : Launch) (g : gT) (h : Nat) (X : Nat → Nat) (V : Nat → Nat → Int32) (th : Int32) (lc ec : Nat) (NN : Nat → Nat) (hlc : lc ≤ 12) (hec : ec ≤ 24) (hNN : ∀ i, i < lc → V 0 i = nI (NN i) ∧ NN i ≤ 40) (k : Nat) (hk : k < lc) (y : Int32) (hy : inB y (NN k) = false) (z : Int32) : wM g l yX3_mend wsX3_mend { frames := 3, cells := 0, slots := 0, locals := 65 } [.ref (h), .int (nI k), .int (y), .int (z)] (mdW g h X V th lc ec) (some (.int (0))) (mdW g h X V 1 lc ec) := by
  refine wr_ofI (cc := cX3_mend) (maxL := 4) (by decide) rfl (Nat.le_of_ble_eq_true rfl) ?_
  intro p e s m args below meth c H0 ls A Q hx hb hml hts hown hK hP hD hS hl hret
  have hl : lv_has ls 4 [(0, .ref (h)), (1, .int (nI k)), (2, .int (y)), (3, .int (z))] := hl
  have S : CallFix p m c cX3_mend 4 s args wsX3_mend RX3 := ⟨hx, hb, hml, hown, hts⟩
  have hgk : inB (nI k) lc = true := inB_nI hk (by omega)
  have hVn := (hNN k hk).1
  have hn := (hNN k hk).2
  have iX3 : ∀ w ∈ u_ws RX3 TX3 12, w ∈ wsX3_mend := by decide +kernel
  have f37 := hts (.fieldLink RX3 37 "LetterSealsModel" "thrown" "I") (by decide +kernel)
  obtain ⟨H, eH⟩ : ∃ H : Heap, H = H0 := ⟨_, rfl⟩
  rw [← eH] at hP ⊢
  have hS : va_S A H0 H [] := by rw [eH]; exact hS
  have hP : va_P (gD g) vwCl [(h, .inr (3, [.int (th), .int (nI lc), .ref (X 0), .ref (X 1), .int (nI ec), .ref (X 2), .ref (X 3), .ref (X 4), .ref (X 5), .ref (X 6), .ref (X 7), .ref (X 8)])), (X 0, .inl (gI g, 12, .inl (V 0))), (X 1, .inl (gI g, 480, .inl (V 1))), (X 2, .inl (gI g, 24, .inl (V 2))), (X 3, .inl (gI g, 24, .inl (V 3))), (X 4, .inl (gI g, 24, .inl (V 4))), (X 5, .inl (gI g, 192, .inl (V 5))), (X 6, .inl (gI g, 24, .inl (V 6))), (X 7, .inl (gI g, 24, .inl (V 7))), (X 8, .inl (gI g, 24, .inl (V 8)))] H := hP
  have hD : va_D A [(h, .inr (3, [.int (th), .int (nI lc), .ref (X 0), .ref (X 1), .int (nI ec), .ref (X 2), .ref (X 3), .ref (X 4), .ref (X 5), .ref (X 6), .ref (X 7), .ref (X 8)])), (X 0, .inl (gI g, 12, .inl (V 0))), (X 1, .inl (gI g, 480, .inl (V 1))), (X 2, .inl (gI g, 24, .inl (V 2))), (X 3, .inl (gI g, 24, .inl (V 3))), (X 4, .inl (gI g, 24, .inl (V 4))), (X 5, .inl (gI g, 192, .inl (V 5))), (X 6, .inl (gI g, 24, .inl (V 6))), (X 7, .inl (gI g, 24, .inl (V 7))), (X 8, .inl (gI g, 24, .inl (V 8)))] := hD
  refine lv_aload_n hx hb dX3_mend_0 rfl (lv_at hl 0 rfl) ?_
  refine lv_iconst (v := 0) hx hb dX3_mend_1 (by decide +kernel) ?_
  refine va_put (D := gD g) (ci := 3) (v := .int (0)) (ty := .int) (C := RX3) (T := TX3) (N := 12) hx hb hts iX3 tyX3 tyX3_ok nmX3 hown hK.1 hP hD hS 0 rfl rfl 0 (by decide) f37 (fun _ h9 => h9) rfl (by decide +kernel) rfl rfl (Nat.le_of_ble_eq_true rfl) dX3_mend_2 (fun H locs hP hD hS => ?_)
  have hP : va_P (gD g) vwCl [(h, .inr (3, [.int (0), .int (nI lc), .ref (X 0), .ref (X 1), .int (nI ec), .ref (X 2), .ref (X 3), .ref (X 4), .ref (X 5), .ref (X 6), .ref (X 7), .ref (X 8)])), (X 0, .inl (gI g, 12, .inl (V 0))), (X 1, .inl (gI g, 480, .inl (V 1))), (X 2, .inl (gI g, 24, .inl (V 2))), (X 3, .inl (gI g, 24, .inl (V 3))), (X 4, .inl (gI g, 24, .inl (V 4))), (X 5, .inl (gI g, 192, .inl (V 5))), (X 6, .inl (gI g, 24, .inl (V 6))), (X 7, .inl (gI g, 24, .inl (V 7))), (X 8, .inl (gI g, 24, .inl (V 8)))] H := hP
  have hD : va_D A [(h, .inr (3, [.int (0), .int (nI lc), .ref (X 0), .ref (X 1), .int (nI ec), .ref (X 2), .ref (X 3), .ref (X 4), .ref (X 5), .ref (X 6), .ref (X 7), .ref (X 8)])), (X 0, .inl (gI g, 12, .inl (V 0))), (X 1, .inl (gI g, 480, .inl (V 1))), (X 2, .inl (gI g, 24, .inl (V 2))), (X 3, .inl (gI g, 24, .inl (V 3))), (X 4, .inl (gI g, 24, .inl (V 4))), (X 5, .inl (gI g, 192, .inl (V 5))), (X 6, .inl (gI g, 24, .inl (V 6))), (X 7, .inl (gI g, 24, .inl (V 7))), (X 8, .inl (gI g, 24, .inl (V 8)))] := hD
  refine lv_aload_n hx hb dX3_mend_5 rfl (lv_at hl 0 rfl) ?_
  refine lv_iload_n hx hb dX3_mend_6 rfl (lv_at hl 1 rfl) ?_
  refine lv_iload_n hx hb dX3_mend_7 rfl (lv_at hl 2 rfl) ?_
  refine p_V (As := [.int (nI k), .int (y)]) (rest := []) S (c_X3_isPlace l g h X V 0 lc ec NN hlc hec hNN k hk (y)) (cwV 2 hts gX3_mend_X3_isPlace rfl rfl rfl (by decide +kernel) ⟨Nat.le_of_ble_eq_true rfl, Nat.le_of_ble_eq_true rfl⟩) hK (va_recv hK.1 hP (ci := 3) (q0 := 0) rfl rfl) (hP) rfl hl.1 rfl (Nat.le_of_ble_eq_true rfl) dX3_mend_8 ⟨Nat.le_of_ble_eq_true rfl, Nat.le_of_ble_eq_true rfl⟩ ?_
  refine br_neB (tgt := 20) hx hb dX3_mend_11 (by decide) (fun c11 => ?_) (fun c11 => ?_)
  · exact absurd c11 (by rw [hy]; decide)
  · refine lv_aload_n hx hb dX3_mend_14 rfl (lv_at hl 0 rfl) ?_
    refine lv_iconst (v := 1) hx hb dX3_mend_15 (by decide +kernel) ?_
    refine w_V (As := [.int (1)]) (rest := []) S (c_X3_no l g h X V 0 lc ec (1)) (cwV 1 hts gX3_mend_X3_no rfl rfl rfl (by decide +kernel) ⟨Nat.le_of_ble_eq_true rfl, Nat.le_of_ble_eq_true rfl⟩) hK (va_recv hK.1 hP (ci := 3) (q0 := 0) rfl rfl) hP (hD.weaken (fun _ _ _ _ => trivial)) hS (wA_D hD [0, 1, 2, 3, 4, 5, 6, 7, 8, 9] rfl) rfl hl.1 rfl (Nat.le_of_ble_eq_true rfl) dX3_mend_16 ⟨Nat.le_of_ble_eq_true rfl, Nat.le_of_ble_eq_true rfl⟩ (fun H locs hP1 hz1 hk1 hS => ?_)
    have hP : va_P (gD g) vwCl [(h, .inr (3, [.int (1), .int (nI lc), .ref (X 0), .ref (X 1), .int (nI ec), .ref (X 2), .ref (X 3), .ref (X 4), .ref (X 5), .ref (X 6), .ref (X 7), .ref (X 8)])), (X 0, .inl (gI g, 12, .inl (V 0))), (X 1, .inl (gI g, 480, .inl (V 1))), (X 2, .inl (gI g, 24, .inl (V 2))), (X 3, .inl (gI g, 24, .inl (V 3))), (X 4, .inl (gI g, 24, .inl (V 4))), (X 5, .inl (gI g, 192, .inl (V 5))), (X 6, .inl (gI g, 24, .inl (V 6))), (X 7, .inl (gI g, 24, .inl (V 7))), (X 8, .inl (gI g, 24, .inl (V 8)))] H := hP1
    have hD : va_D A [(h, .inr (3, [.int (1), .int (nI lc), .ref (X 0), .ref (X 1), .int (nI ec), .ref (X 2), .ref (X 3), .ref (X 4), .ref (X 5), .ref (X 6), .ref (X 7), .ref (X 8)])), (X 0, .inl (gI g, 12, .inl (V 0))), (X 1, .inl (gI g, 480, .inl (V 1))), (X 2, .inl (gI g, 24, .inl (V 2))), (X 3, .inl (gI g, 24, .inl (V 3))), (X 4, .inl (gI g, 24, .inl (V 4))), (X 5, .inl (gI g, 192, .inl (V 5))), (X 6, .inl (gI g, 24, .inl (V 6))), (X 7, .inl (gI g, 24, .inl (V 7))), (X 8, .inl (gI g, 24, .inl (V 8)))] := D_same hD rfl
    exact hret _ _ _ _ hP hS dX3_mend_19

set_option maxHeartbeats 4000000 in
set_option maxRecDepth 100000 in
/-- mend_2 -/
theorem c_X3_mend_2 (l : Launch) (g : gT) (h : Nat) (X : Nat → Nat) (V : Nat → Nat → Int32) (th : Int32) (lc ec : Nat) (NN : Nat → Nat) (hlc : lc ≤ 12) (hec : ec ≤ 24) (hNN : ∀ i, i < lc → V 0 i = nI (NN i) ∧ NN i ≤ 40) (k : Nat) (hk : k < lc) (j : Nat) (hj : j < NN k) (x : Int32) (hs : (decide (0 ≤ x) && decide (x ≤ 29)) = false) : wM g l yX3_mend wsX3_mend { frames := 3, cells := 0, slots := 0, locals := 65 } [.ref (h), .int (nI k), .int (nI j), .int (x)] (mdW g h X V th lc ec) (some (.int (0))) (mdW g h X V 2 lc ec) := by
  refine wr_ofI (cc := cX3_mend) (maxL := 4) (by decide) rfl (Nat.le_of_ble_eq_true rfl) ?_
  intro p e s m args below meth c H0 ls A Q hx hb hml hts hown hK hP hD hS hl hret
  have hl : lv_has ls 4 [(0, .ref (h)), (1, .int (nI k)), (2, .int (nI j)), (3, .int (x))] := hl
  have S : CallFix p m c cX3_mend 4 s args wsX3_mend RX3 := ⟨hx, hb, hml, hown, hts⟩
  have hgk : inB (nI k) lc = true := inB_nI hk (by omega)
  have hVn := (hNN k hk).1
  have hn := (hNN k hk).2
  have hgj : inB (nI j) (NN k) = true := inB_nI hj (by omega)
  have iX3 : ∀ w ∈ u_ws RX3 TX3 12, w ∈ wsX3_mend := by decide +kernel
  have f37 := hts (.fieldLink RX3 37 "LetterSealsModel" "thrown" "I") (by decide +kernel)
  obtain ⟨H, eH⟩ : ∃ H : Heap, H = H0 := ⟨_, rfl⟩
  rw [← eH] at hP ⊢
  have hS : va_S A H0 H [] := by rw [eH]; exact hS
  have hP : va_P (gD g) vwCl [(h, .inr (3, [.int (th), .int (nI lc), .ref (X 0), .ref (X 1), .int (nI ec), .ref (X 2), .ref (X 3), .ref (X 4), .ref (X 5), .ref (X 6), .ref (X 7), .ref (X 8)])), (X 0, .inl (gI g, 12, .inl (V 0))), (X 1, .inl (gI g, 480, .inl (V 1))), (X 2, .inl (gI g, 24, .inl (V 2))), (X 3, .inl (gI g, 24, .inl (V 3))), (X 4, .inl (gI g, 24, .inl (V 4))), (X 5, .inl (gI g, 192, .inl (V 5))), (X 6, .inl (gI g, 24, .inl (V 6))), (X 7, .inl (gI g, 24, .inl (V 7))), (X 8, .inl (gI g, 24, .inl (V 8)))] H := hP
  have hD : va_D A [(h, .inr (3, [.int (th), .int (nI lc), .ref (X 0), .ref (X 1), .int (nI ec), .ref (X 2), .ref (X 3), .ref (X 4), .ref (X 5), .ref (X 6), .ref (X 7), .ref (X 8)])), (X 0, .inl (gI g, 12, .inl (V 0))), (X 1, .inl (gI g, 480, .inl (V 1))), (X 2, .inl (gI g, 24, .inl (V 2))), (X 3, .inl (gI g, 24, .inl (V 3))), (X 4, .inl (gI g, 24, .inl (V 4))), (X 5, .inl (gI g, 192, .inl (V 5))), (X 6, .inl (gI g, 24, .inl (V 6))), (X 7, .inl (gI g, 24, .inl (V 7))), (X 8, .inl (gI g, 24, .inl (V 8)))] := hD
  refine lv_aload_n hx hb dX3_mend_0 rfl (lv_at hl 0 rfl) ?_
  refine lv_iconst (v := 0) hx hb dX3_mend_1 (by decide +kernel) ?_
  refine va_put (D := gD g) (ci := 3) (v := .int (0)) (ty := .int) (C := RX3) (T := TX3) (N := 12) hx hb hts iX3 tyX3 tyX3_ok nmX3 hown hK.1 hP hD hS 0 rfl rfl 0 (by decide) f37 (fun _ h9 => h9) rfl (by decide +kernel) rfl rfl (Nat.le_of_ble_eq_true rfl) dX3_mend_2 (fun H locs hP hD hS => ?_)
  have hP : va_P (gD g) vwCl [(h, .inr (3, [.int (0), .int (nI lc), .ref (X 0), .ref (X 1), .int (nI ec), .ref (X 2), .ref (X 3), .ref (X 4), .ref (X 5), .ref (X 6), .ref (X 7), .ref (X 8)])), (X 0, .inl (gI g, 12, .inl (V 0))), (X 1, .inl (gI g, 480, .inl (V 1))), (X 2, .inl (gI g, 24, .inl (V 2))), (X 3, .inl (gI g, 24, .inl (V 3))), (X 4, .inl (gI g, 24, .inl (V 4))), (X 5, .inl (gI g, 192, .inl (V 5))), (X 6, .inl (gI g, 24, .inl (V 6))), (X 7, .inl (gI g, 24, .inl (V 7))), (X 8, .inl (gI g, 24, .inl (V 8)))] H := hP
  have hD : va_D A [(h, .inr (3, [.int (0), .int (nI lc), .ref (X 0), .ref (X 1), .int (nI ec), .ref (X 2), .ref (X 3), .ref (X 4), .ref (X 5), .ref (X 6), .ref (X 7), .ref (X 8)])), (X 0, .inl (gI g, 12, .inl (V 0))), (X 1, .inl (gI g, 480, .inl (V 1))), (X 2, .inl (gI g, 24, .inl (V 2))), (X 3, .inl (gI g, 24, .inl (V 3))), (X 4, .inl (gI g, 24, .inl (V 4))), (X 5, .inl (gI g, 192, .inl (V 5))), (X 6, .inl (gI g, 24, .inl (V 6))), (X 7, .inl (gI g, 24, .inl (V 7))), (X 8, .inl (gI g, 24, .inl (V 8)))] := hD
  refine lv_aload_n hx hb dX3_mend_5 rfl (lv_at hl 0 rfl) ?_
  refine lv_iload_n hx hb dX3_mend_6 rfl (lv_at hl 1 rfl) ?_
  refine lv_iload_n hx hb dX3_mend_7 rfl (lv_at hl 2 rfl) ?_
  refine p_V (As := [.int (nI k), .int (nI j)]) (rest := []) S (c_X3_isPlace l g h X V 0 lc ec NN hlc hec hNN k hk (nI j)) (cwV 2 hts gX3_mend_X3_isPlace rfl rfl rfl (by decide +kernel) ⟨Nat.le_of_ble_eq_true rfl, Nat.le_of_ble_eq_true rfl⟩) hK (va_recv hK.1 hP (ci := 3) (q0 := 0) rfl rfl) (hP) rfl hl.1 rfl (Nat.le_of_ble_eq_true rfl) dX3_mend_8 ⟨Nat.le_of_ble_eq_true rfl, Nat.le_of_ble_eq_true rfl⟩ ?_
  refine br_neB (tgt := 20) hx hb dX3_mend_11 (by decide) (fun c11 => ?_) (fun c11 => ?_)
  · refine lv_iload_n hx hb dX3_mend_20 rfl (lv_at hl 3 rfl) ?_
    refine lv_iconst (v := 0) hx hb dX3_mend_21 (by decide +kernel) ?_
    refine lv_bipush (v := 29) hx hb dX3_mend_22 (by decide +kernel) ?_
    refine p_S (As := [.int (x), .int (0), .int (29)]) (rest := []) S (c_X3_isFrom l g (x) (0) (29)) (cwS 3 hts gX3_mend_X3_isFrom rfl rfl rfl (by decide +kernel) ⟨Nat.le_of_ble_eq_true rfl, Nat.le_of_ble_eq_true rfl⟩) hK (trivial) rfl hl.1 rfl (Nat.le_of_ble_eq_true rfl) dX3_mend_24 ⟨Nat.le_of_ble_eq_true rfl, Nat.le_of_ble_eq_true rfl⟩ ?_
    refine br_neB (tgt := 36) hx hb dX3_mend_27 (by decide) (fun c27 => ?_) (fun c27 => ?_)
    · exact absurd c27 (by rw [hs]; decide)
    · refine lv_aload_n hx hb dX3_mend_30 rfl (lv_at hl 0 rfl) ?_
      refine lv_iconst (v := 2) hx hb dX3_mend_31 (by decide +kernel) ?_
      refine w_V (As := [.int (2)]) (rest := []) S (c_X3_no l g h X V 0 lc ec (2)) (cwV 1 hts gX3_mend_X3_no rfl rfl rfl (by decide +kernel) ⟨Nat.le_of_ble_eq_true rfl, Nat.le_of_ble_eq_true rfl⟩) hK (va_recv hK.1 hP (ci := 3) (q0 := 0) rfl rfl) hP (hD.weaken (fun _ _ _ _ => trivial)) hS (wA_D hD [0, 1, 2, 3, 4, 5, 6, 7, 8, 9] rfl) rfl hl.1 rfl (Nat.le_of_ble_eq_true rfl) dX3_mend_32 ⟨Nat.le_of_ble_eq_true rfl, Nat.le_of_ble_eq_true rfl⟩ (fun H locs hP1 hz1 hk1 hS => ?_)
      have hP : va_P (gD g) vwCl [(h, .inr (3, [.int (2), .int (nI lc), .ref (X 0), .ref (X 1), .int (nI ec), .ref (X 2), .ref (X 3), .ref (X 4), .ref (X 5), .ref (X 6), .ref (X 7), .ref (X 8)])), (X 0, .inl (gI g, 12, .inl (V 0))), (X 1, .inl (gI g, 480, .inl (V 1))), (X 2, .inl (gI g, 24, .inl (V 2))), (X 3, .inl (gI g, 24, .inl (V 3))), (X 4, .inl (gI g, 24, .inl (V 4))), (X 5, .inl (gI g, 192, .inl (V 5))), (X 6, .inl (gI g, 24, .inl (V 6))), (X 7, .inl (gI g, 24, .inl (V 7))), (X 8, .inl (gI g, 24, .inl (V 8)))] H := hP1
      have hD : va_D A [(h, .inr (3, [.int (2), .int (nI lc), .ref (X 0), .ref (X 1), .int (nI ec), .ref (X 2), .ref (X 3), .ref (X 4), .ref (X 5), .ref (X 6), .ref (X 7), .ref (X 8)])), (X 0, .inl (gI g, 12, .inl (V 0))), (X 1, .inl (gI g, 480, .inl (V 1))), (X 2, .inl (gI g, 24, .inl (V 2))), (X 3, .inl (gI g, 24, .inl (V 3))), (X 4, .inl (gI g, 24, .inl (V 4))), (X 5, .inl (gI g, 192, .inl (V 5))), (X 6, .inl (gI g, 24, .inl (V 6))), (X 7, .inl (gI g, 24, .inl (V 7))), (X 8, .inl (gI g, 24, .inl (V 8)))] := D_same hD rfl
      exact hret _ _ _ _ hP hS dX3_mend_35
  · exact absurd c11 (by rw [hgj]; decide)

set_option maxHeartbeats 4000000 in
set_option maxRecDepth 100000 in
/-- mend_3 -/
theorem c_X3_mend_3 (l : Launch) (g : gT) (h : Nat) (X : Nat → Nat) (V : Nat → Nat → Int32) (th : Int32) (lc ec : Nat) (NN : Nat → Nat) (hlc : lc ≤ 12) (hec : ec ≤ 24) (hNN : ∀ i, i < lc → V 0 i = nI (NN i) ∧ NN i ≤ 40) (k : Nat) (hk : k < lc) (j : Nat) (hj : j < NN k) (x : Int32) (hs : (decide (0 ≤ x) && decide (x ≤ 29)) = true) (hz : ¬ V 1 (40 * k + j) = 30) : wM g l yX3_mend wsX3_mend { frames := 3, cells := 0, slots := 0, locals := 65 } [.ref (h), .int (nI k), .int (nI j), .int (x)] (mdW g h X V th lc ec) (some (.int (0))) (mdW g h X V 3 lc ec) := by
  refine wr_ofI (cc := cX3_mend) (maxL := 4) (by decide) rfl (Nat.le_of_ble_eq_true rfl) ?_
  intro p e s m args below meth c H0 ls A Q hx hb hml hts hown hK hP hD hS hl hret
  have hl : lv_has ls 4 [(0, .ref (h)), (1, .int (nI k)), (2, .int (nI j)), (3, .int (x))] := hl
  have S : CallFix p m c cX3_mend 4 s args wsX3_mend RX3 := ⟨hx, hb, hml, hown, hts⟩
  have hgk : inB (nI k) lc = true := inB_nI hk (by omega)
  have hVn := (hNN k hk).1
  have hn := (hNN k hk).2
  have hgj : inB (nI j) (NN k) = true := inB_nI hj (by omega)
  have iX3 : ∀ w ∈ u_ws RX3 TX3 12, w ∈ wsX3_mend := by decide +kernel
  have f37 := hts (.fieldLink RX3 37 "LetterSealsModel" "thrown" "I") (by decide +kernel)
  obtain ⟨H, eH⟩ : ∃ H : Heap, H = H0 := ⟨_, rfl⟩
  rw [← eH] at hP ⊢
  have hS : va_S A H0 H [] := by rw [eH]; exact hS
  have hP : va_P (gD g) vwCl [(h, .inr (3, [.int (th), .int (nI lc), .ref (X 0), .ref (X 1), .int (nI ec), .ref (X 2), .ref (X 3), .ref (X 4), .ref (X 5), .ref (X 6), .ref (X 7), .ref (X 8)])), (X 0, .inl (gI g, 12, .inl (V 0))), (X 1, .inl (gI g, 480, .inl (V 1))), (X 2, .inl (gI g, 24, .inl (V 2))), (X 3, .inl (gI g, 24, .inl (V 3))), (X 4, .inl (gI g, 24, .inl (V 4))), (X 5, .inl (gI g, 192, .inl (V 5))), (X 6, .inl (gI g, 24, .inl (V 6))), (X 7, .inl (gI g, 24, .inl (V 7))), (X 8, .inl (gI g, 24, .inl (V 8)))] H := hP
  have hD : va_D A [(h, .inr (3, [.int (th), .int (nI lc), .ref (X 0), .ref (X 1), .int (nI ec), .ref (X 2), .ref (X 3), .ref (X 4), .ref (X 5), .ref (X 6), .ref (X 7), .ref (X 8)])), (X 0, .inl (gI g, 12, .inl (V 0))), (X 1, .inl (gI g, 480, .inl (V 1))), (X 2, .inl (gI g, 24, .inl (V 2))), (X 3, .inl (gI g, 24, .inl (V 3))), (X 4, .inl (gI g, 24, .inl (V 4))), (X 5, .inl (gI g, 192, .inl (V 5))), (X 6, .inl (gI g, 24, .inl (V 6))), (X 7, .inl (gI g, 24, .inl (V 7))), (X 8, .inl (gI g, 24, .inl (V 8)))] := hD
  refine lv_aload_n hx hb dX3_mend_0 rfl (lv_at hl 0 rfl) ?_
  refine lv_iconst (v := 0) hx hb dX3_mend_1 (by decide +kernel) ?_
  refine va_put (D := gD g) (ci := 3) (v := .int (0)) (ty := .int) (C := RX3) (T := TX3) (N := 12) hx hb hts iX3 tyX3 tyX3_ok nmX3 hown hK.1 hP hD hS 0 rfl rfl 0 (by decide) f37 (fun _ h9 => h9) rfl (by decide +kernel) rfl rfl (Nat.le_of_ble_eq_true rfl) dX3_mend_2 (fun H locs hP hD hS => ?_)
  have hP : va_P (gD g) vwCl [(h, .inr (3, [.int (0), .int (nI lc), .ref (X 0), .ref (X 1), .int (nI ec), .ref (X 2), .ref (X 3), .ref (X 4), .ref (X 5), .ref (X 6), .ref (X 7), .ref (X 8)])), (X 0, .inl (gI g, 12, .inl (V 0))), (X 1, .inl (gI g, 480, .inl (V 1))), (X 2, .inl (gI g, 24, .inl (V 2))), (X 3, .inl (gI g, 24, .inl (V 3))), (X 4, .inl (gI g, 24, .inl (V 4))), (X 5, .inl (gI g, 192, .inl (V 5))), (X 6, .inl (gI g, 24, .inl (V 6))), (X 7, .inl (gI g, 24, .inl (V 7))), (X 8, .inl (gI g, 24, .inl (V 8)))] H := hP
  have hD : va_D A [(h, .inr (3, [.int (0), .int (nI lc), .ref (X 0), .ref (X 1), .int (nI ec), .ref (X 2), .ref (X 3), .ref (X 4), .ref (X 5), .ref (X 6), .ref (X 7), .ref (X 8)])), (X 0, .inl (gI g, 12, .inl (V 0))), (X 1, .inl (gI g, 480, .inl (V 1))), (X 2, .inl (gI g, 24, .inl (V 2))), (X 3, .inl (gI g, 24, .inl (V 3))), (X 4, .inl (gI g, 24, .inl (V 4))), (X 5, .inl (gI g, 192, .inl (V 5))), (X 6, .inl (gI g, 24, .inl (V 6))), (X 7, .inl (gI g, 24, .inl (V 7))), (X 8, .inl (gI g, 24, .inl (V 8)))] := hD
  refine lv_aload_n hx hb dX3_mend_5 rfl (lv_at hl 0 rfl) ?_
  refine lv_iload_n hx hb dX3_mend_6 rfl (lv_at hl 1 rfl) ?_
  refine lv_iload_n hx hb dX3_mend_7 rfl (lv_at hl 2 rfl) ?_
  refine p_V (As := [.int (nI k), .int (nI j)]) (rest := []) S (c_X3_isPlace l g h X V 0 lc ec NN hlc hec hNN k hk (nI j)) (cwV 2 hts gX3_mend_X3_isPlace rfl rfl rfl (by decide +kernel) ⟨Nat.le_of_ble_eq_true rfl, Nat.le_of_ble_eq_true rfl⟩) hK (va_recv hK.1 hP (ci := 3) (q0 := 0) rfl rfl) (hP) rfl hl.1 rfl (Nat.le_of_ble_eq_true rfl) dX3_mend_8 ⟨Nat.le_of_ble_eq_true rfl, Nat.le_of_ble_eq_true rfl⟩ ?_
  refine br_neB (tgt := 20) hx hb dX3_mend_11 (by decide) (fun c11 => ?_) (fun c11 => ?_)
  · refine lv_iload_n hx hb dX3_mend_20 rfl (lv_at hl 3 rfl) ?_
    refine lv_iconst (v := 0) hx hb dX3_mend_21 (by decide +kernel) ?_
    refine lv_bipush (v := 29) hx hb dX3_mend_22 (by decide +kernel) ?_
    refine p_S (As := [.int (x), .int (0), .int (29)]) (rest := []) S (c_X3_isFrom l g (x) (0) (29)) (cwS 3 hts gX3_mend_X3_isFrom rfl rfl rfl (by decide +kernel) ⟨Nat.le_of_ble_eq_true rfl, Nat.le_of_ble_eq_true rfl⟩) hK (trivial) rfl hl.1 rfl (Nat.le_of_ble_eq_true rfl) dX3_mend_24 ⟨Nat.le_of_ble_eq_true rfl, Nat.le_of_ble_eq_true rfl⟩ ?_
    refine br_neB (tgt := 36) hx hb dX3_mend_27 (by decide) (fun c27 => ?_) (fun c27 => ?_)
    · refine lv_aload_n hx hb dX3_mend_36 rfl (lv_at hl 0 rfl) ?_
      refine lv_iload_n hx hb dX3_mend_37 rfl (lv_at hl 1 rfl) ?_
      refine lv_iload_n hx hb dX3_mend_38 rfl (lv_at hl 2 rfl) ?_
      refine p_V (As := [.int (nI k), .int (nI j)]) (rest := []) S (c_X3_at l g h X V 0 lc ec (k) (j) (by omega) (by omega)) (cwV 2 hts gX3_mend_X3_at rfl rfl rfl (by decide +kernel) ⟨Nat.le_of_ble_eq_true rfl, Nat.le_of_ble_eq_true rfl⟩) hK (va_recv hK.1 hP (ci := 3) (q0 := 0) rfl rfl) (hP) rfl hl.1 rfl (Nat.le_of_ble_eq_true rfl) dX3_mend_39 ⟨Nat.le_of_ble_eq_true rfl, Nat.le_of_ble_eq_true rfl⟩ ?_
      refine lv_bipush (v := 30) hx hb dX3_mend_42 (by decide +kernel) ?_
      refine lv_icmp_eq (tgt := 53) hx hb dX3_mend_44 (by decide) (fun c44 => ?_) (fun c44 => ?_)
      · exact absurd c44 hz
      · refine lv_aload_n hx hb dX3_mend_47 rfl (lv_at hl 0 rfl) ?_
        refine lv_iconst (v := 3) hx hb dX3_mend_48 (by decide +kernel) ?_
        refine w_V (As := [.int (3)]) (rest := []) S (c_X3_no l g h X V 0 lc ec (3)) (cwV 1 hts gX3_mend_X3_no rfl rfl rfl (by decide +kernel) ⟨Nat.le_of_ble_eq_true rfl, Nat.le_of_ble_eq_true rfl⟩) hK (va_recv hK.1 hP (ci := 3) (q0 := 0) rfl rfl) hP (hD.weaken (fun _ _ _ _ => trivial)) hS (wA_D hD [0, 1, 2, 3, 4, 5, 6, 7, 8, 9] rfl) rfl hl.1 rfl (Nat.le_of_ble_eq_true rfl) dX3_mend_49 ⟨Nat.le_of_ble_eq_true rfl, Nat.le_of_ble_eq_true rfl⟩ (fun H locs hP1 hz1 hk1 hS => ?_)
        have hP : va_P (gD g) vwCl [(h, .inr (3, [.int (3), .int (nI lc), .ref (X 0), .ref (X 1), .int (nI ec), .ref (X 2), .ref (X 3), .ref (X 4), .ref (X 5), .ref (X 6), .ref (X 7), .ref (X 8)])), (X 0, .inl (gI g, 12, .inl (V 0))), (X 1, .inl (gI g, 480, .inl (V 1))), (X 2, .inl (gI g, 24, .inl (V 2))), (X 3, .inl (gI g, 24, .inl (V 3))), (X 4, .inl (gI g, 24, .inl (V 4))), (X 5, .inl (gI g, 192, .inl (V 5))), (X 6, .inl (gI g, 24, .inl (V 6))), (X 7, .inl (gI g, 24, .inl (V 7))), (X 8, .inl (gI g, 24, .inl (V 8)))] H := hP1
        have hD : va_D A [(h, .inr (3, [.int (3), .int (nI lc), .ref (X 0), .ref (X 1), .int (nI ec), .ref (X 2), .ref (X 3), .ref (X 4), .ref (X 5), .ref (X 6), .ref (X 7), .ref (X 8)])), (X 0, .inl (gI g, 12, .inl (V 0))), (X 1, .inl (gI g, 480, .inl (V 1))), (X 2, .inl (gI g, 24, .inl (V 2))), (X 3, .inl (gI g, 24, .inl (V 3))), (X 4, .inl (gI g, 24, .inl (V 4))), (X 5, .inl (gI g, 192, .inl (V 5))), (X 6, .inl (gI g, 24, .inl (V 6))), (X 7, .inl (gI g, 24, .inl (V 7))), (X 8, .inl (gI g, 24, .inl (V 8)))] := D_same hD rfl
        exact hret _ _ _ _ hP hS dX3_mend_52
    · exact absurd c27 (by rw [hs]; decide)
  · exact absurd c11 (by rw [hgj]; decide)

set_option maxHeartbeats 4000000 in
set_option maxRecDepth 100000 in
/-- unseal -/
theorem c_X3_unseal (l : Launch) (g : gT) (h : Nat) (X : Nat → Nat) (V : Nat → Nat → Int32) (th : Int32) (lc ec : Nat) (hlc : lc ≤ 12) (hec : ec ≤ 24) (he1 : 0 < ec) : wM g l yX3_unseal wsX3_unseal { frames := 0, cells := 0, slots := 0, locals := 0 } [.ref (h)] (mdW g h X V th lc ec) (some (.int (V 8 (ec - 1)))) (mdW g h X V 0 lc (ec - 1)) := by
  refine wr_ofI (cc := cX3_unseal) (maxL := 1) (by decide) rfl (Nat.le_of_ble_eq_true rfl) ?_
  intro p e s m args below meth c H0 ls A Q hx hb hml hts hown hK hP hD hS hl hret
  have hl : lv_has ls 1 [(0, .ref (h))] := hl
  have S : CallFix p m c cX3_unseal 1 s args wsX3_unseal RX3 := ⟨hx, hb, hml, hown, hts⟩
  have iX3 : ∀ w ∈ u_ws RX3 TX3 12, w ∈ wsX3_unseal := by decide +kernel
  have f34 := hts (.fieldLink RX3 34 "LetterSealsModel" "seals" "[I") (by decide +kernel)
  have f37 := hts (.fieldLink RX3 37 "LetterSealsModel" "thrown" "I") (by decide +kernel)
  have f48 := hts (.fieldLink RX3 48 "LetterSealsModel" "envelopes" "I") (by decide +kernel)
  obtain ⟨H, eH⟩ : ∃ H : Heap, H = H0 := ⟨_, rfl⟩
  rw [← eH] at hP ⊢
  have hS : va_S A H0 H [] := by rw [eH]; exact hS
  have hP : va_P (gD g) vwCl [(h, .inr (3, [.int (th), .int (nI lc), .ref (X 0), .ref (X 1), .int (nI ec), .ref (X 2), .ref (X 3), .ref (X 4), .ref (X 5), .ref (X 6), .ref (X 7), .ref (X 8)])), (X 0, .inl (gI g, 12, .inl (V 0))), (X 1, .inl (gI g, 480, .inl (V 1))), (X 2, .inl (gI g, 24, .inl (V 2))), (X 3, .inl (gI g, 24, .inl (V 3))), (X 4, .inl (gI g, 24, .inl (V 4))), (X 5, .inl (gI g, 192, .inl (V 5))), (X 6, .inl (gI g, 24, .inl (V 6))), (X 7, .inl (gI g, 24, .inl (V 7))), (X 8, .inl (gI g, 24, .inl (V 8)))] H := hP
  have hD : va_D A [(h, .inr (3, [.int (th), .int (nI lc), .ref (X 0), .ref (X 1), .int (nI ec), .ref (X 2), .ref (X 3), .ref (X 4), .ref (X 5), .ref (X 6), .ref (X 7), .ref (X 8)])), (X 0, .inl (gI g, 12, .inl (V 0))), (X 1, .inl (gI g, 480, .inl (V 1))), (X 2, .inl (gI g, 24, .inl (V 2))), (X 3, .inl (gI g, 24, .inl (V 3))), (X 4, .inl (gI g, 24, .inl (V 4))), (X 5, .inl (gI g, 192, .inl (V 5))), (X 6, .inl (gI g, 24, .inl (V 6))), (X 7, .inl (gI g, 24, .inl (V 7))), (X 8, .inl (gI g, 24, .inl (V 8)))] := hD
  refine lv_aload_n hx hb dX3_unseal_0 rfl (lv_at hl 0 rfl) ?_
  refine lv_iconst (v := 0) hx hb dX3_unseal_1 (by decide +kernel) ?_
  refine va_put (D := gD g) (ci := 3) (v := .int (0)) (ty := .int) (C := RX3) (T := TX3) (N := 12) hx hb hts iX3 tyX3 tyX3_ok nmX3 hown hK.1 hP hD hS 0 rfl rfl 0 (by decide) f37 (fun _ h9 => h9) rfl (by decide +kernel) rfl rfl (Nat.le_of_ble_eq_true rfl) dX3_unseal_2 (fun H locs hP hD hS => ?_)
  have hP : va_P (gD g) vwCl [(h, .inr (3, [.int (0), .int (nI lc), .ref (X 0), .ref (X 1), .int (nI ec), .ref (X 2), .ref (X 3), .ref (X 4), .ref (X 5), .ref (X 6), .ref (X 7), .ref (X 8)])), (X 0, .inl (gI g, 12, .inl (V 0))), (X 1, .inl (gI g, 480, .inl (V 1))), (X 2, .inl (gI g, 24, .inl (V 2))), (X 3, .inl (gI g, 24, .inl (V 3))), (X 4, .inl (gI g, 24, .inl (V 4))), (X 5, .inl (gI g, 192, .inl (V 5))), (X 6, .inl (gI g, 24, .inl (V 6))), (X 7, .inl (gI g, 24, .inl (V 7))), (X 8, .inl (gI g, 24, .inl (V 8)))] H := hP
  have hD : va_D A [(h, .inr (3, [.int (0), .int (nI lc), .ref (X 0), .ref (X 1), .int (nI ec), .ref (X 2), .ref (X 3), .ref (X 4), .ref (X 5), .ref (X 6), .ref (X 7), .ref (X 8)])), (X 0, .inl (gI g, 12, .inl (V 0))), (X 1, .inl (gI g, 480, .inl (V 1))), (X 2, .inl (gI g, 24, .inl (V 2))), (X 3, .inl (gI g, 24, .inl (V 3))), (X 4, .inl (gI g, 24, .inl (V 4))), (X 5, .inl (gI g, 192, .inl (V 5))), (X 6, .inl (gI g, 24, .inl (V 6))), (X 7, .inl (gI g, 24, .inl (V 7))), (X 8, .inl (gI g, 24, .inl (V 8)))] := hD
  refine lv_aload_n hx hb dX3_unseal_5 rfl (lv_at hl 0 rfl) ?_
  refine va_get (D := gD g) (ci := 3) (v := .int (nI ec)) (C := RX3) (T := TX3) (N := 12) hx hb hts iX3 hown hK.1 hP 0 rfl rfl 4 (by decide) f48 (fun _ h9 => h9) rfl dX3_unseal_6 ?_
  refine br_ne0 (a := ec) (tgt := 18) hx hb (by omega) dX3_unseal_9 (by decide) (fun c9 => ?_) (fun c9 => ?_)
  · refine lv_aload_n hx hb dX3_unseal_18 rfl (lv_at hl 0 rfl) ?_
    refine lv_dup hx hb dX3_unseal_19 rfl ?_
    refine va_get (D := gD g) (ci := 3) (v := .int (nI ec)) (C := RX3) (T := TX3) (N := 12) hx hb hts iX3 hown hK.1 hP 0 rfl rfl 4 (by decide) f48 (fun _ h9 => h9) rfl dX3_unseal_20 ?_
    refine lv_iconst (v := nI (1)) hx hb dX3_unseal_23 (by decide +kernel) ?_
    refine lv_isub hx hb dX3_unseal_24 ?_
    refine lv_toI (z := nI (ec - 1)) (pk_sub (by omega)) ?_
    refine va_put (D := gD g) (ci := 3) (v := .int (nI (ec - 1))) (ty := .int) (C := RX3) (T := TX3) (N := 12) hx hb hts iX3 tyX3 tyX3_ok nmX3 hown hK.1 hP hD hS 0 rfl rfl 4 (by decide) f48 (fun _ h9 => h9) rfl (by decide +kernel) rfl rfl (Nat.le_of_ble_eq_true rfl) dX3_unseal_25 (fun H locs hP hD hS => ?_)
    have hP : va_P (gD g) vwCl [(h, .inr (3, [.int (0), .int (nI lc), .ref (X 0), .ref (X 1), .int (nI (ec - 1)), .ref (X 2), .ref (X 3), .ref (X 4), .ref (X 5), .ref (X 6), .ref (X 7), .ref (X 8)])), (X 0, .inl (gI g, 12, .inl (V 0))), (X 1, .inl (gI g, 480, .inl (V 1))), (X 2, .inl (gI g, 24, .inl (V 2))), (X 3, .inl (gI g, 24, .inl (V 3))), (X 4, .inl (gI g, 24, .inl (V 4))), (X 5, .inl (gI g, 192, .inl (V 5))), (X 6, .inl (gI g, 24, .inl (V 6))), (X 7, .inl (gI g, 24, .inl (V 7))), (X 8, .inl (gI g, 24, .inl (V 8)))] H := hP
    have hD : va_D A [(h, .inr (3, [.int (0), .int (nI lc), .ref (X 0), .ref (X 1), .int (nI (ec - 1)), .ref (X 2), .ref (X 3), .ref (X 4), .ref (X 5), .ref (X 6), .ref (X 7), .ref (X 8)])), (X 0, .inl (gI g, 12, .inl (V 0))), (X 1, .inl (gI g, 480, .inl (V 1))), (X 2, .inl (gI g, 24, .inl (V 2))), (X 3, .inl (gI g, 24, .inl (V 3))), (X 4, .inl (gI g, 24, .inl (V 4))), (X 5, .inl (gI g, 192, .inl (V 5))), (X 6, .inl (gI g, 24, .inl (V 6))), (X 7, .inl (gI g, 24, .inl (V 7))), (X 8, .inl (gI g, 24, .inl (V 8)))] := hD
    refine lv_aload_n hx hb dX3_unseal_28 rfl (lv_at hl 0 rfl) ?_
    refine va_get (D := gD g) (ci := 3) (v := .ref (X 8)) (C := RX3) (T := TX3) (N := 12) hx hb hts iX3 hown hK.1 hP 0 rfl rfl 11 (by decide) f34 (fun _ h9 => h9) rfl dX3_unseal_29 ?_
    refine lv_aload_n hx hb dX3_unseal_32 rfl (lv_at hl 0 rfl) ?_
    refine va_get (D := gD g) (ci := 3) (v := .int (nI (ec - 1))) (C := RX3) (T := TX3) (N := 12) hx hb hts iX3 hown hK.1 hP 0 rfl rfl 4 (by decide) f48 (fun _ h9 => h9) rfl dX3_unseal_33 ?_
    refine ld_I (k := ec - 1) (n := 24) (f := V 8) hx hb hK.1 hP 9 rfl (by omega) (by omega) dX3_unseal_36 ?_
    exact hret _ _ _ _ hP hS dX3_unseal_37
  · omega

set_option maxHeartbeats 4000000 in
set_option maxRecDepth 100000 in
/-- unseal_1 -/
theorem c_X3_unseal_1 (l : Launch) (g : gT) (h : Nat) (X : Nat → Nat) (V : Nat → Nat → Int32) (th : Int32) (lc ec : Nat) (hlc : lc ≤ 12) (hec : ec ≤ 24) (he1 : ec = 0) : wM g l yX3_unseal wsX3_unseal { frames := 1, cells := 0, slots := 0, locals := 21 } [.ref (h)] (mdW g h X V th lc ec) (some (.int (0))) (mdW g h X V 1 lc ec) := by
  refine wr_ofI (cc := cX3_unseal) (maxL := 1) (by decide) rfl (Nat.le_of_ble_eq_true rfl) ?_
  intro p e s m args below meth c H0 ls A Q hx hb hml hts hown hK hP hD hS hl hret
  have hl : lv_has ls 1 [(0, .ref (h))] := hl
  have S : CallFix p m c cX3_unseal 1 s args wsX3_unseal RX3 := ⟨hx, hb, hml, hown, hts⟩
  have iX3 : ∀ w ∈ u_ws RX3 TX3 12, w ∈ wsX3_unseal := by decide +kernel
  have f37 := hts (.fieldLink RX3 37 "LetterSealsModel" "thrown" "I") (by decide +kernel)
  have f48 := hts (.fieldLink RX3 48 "LetterSealsModel" "envelopes" "I") (by decide +kernel)
  obtain ⟨H, eH⟩ : ∃ H : Heap, H = H0 := ⟨_, rfl⟩
  rw [← eH] at hP ⊢
  have hS : va_S A H0 H [] := by rw [eH]; exact hS
  have hP : va_P (gD g) vwCl [(h, .inr (3, [.int (th), .int (nI lc), .ref (X 0), .ref (X 1), .int (nI ec), .ref (X 2), .ref (X 3), .ref (X 4), .ref (X 5), .ref (X 6), .ref (X 7), .ref (X 8)])), (X 0, .inl (gI g, 12, .inl (V 0))), (X 1, .inl (gI g, 480, .inl (V 1))), (X 2, .inl (gI g, 24, .inl (V 2))), (X 3, .inl (gI g, 24, .inl (V 3))), (X 4, .inl (gI g, 24, .inl (V 4))), (X 5, .inl (gI g, 192, .inl (V 5))), (X 6, .inl (gI g, 24, .inl (V 6))), (X 7, .inl (gI g, 24, .inl (V 7))), (X 8, .inl (gI g, 24, .inl (V 8)))] H := hP
  have hD : va_D A [(h, .inr (3, [.int (th), .int (nI lc), .ref (X 0), .ref (X 1), .int (nI ec), .ref (X 2), .ref (X 3), .ref (X 4), .ref (X 5), .ref (X 6), .ref (X 7), .ref (X 8)])), (X 0, .inl (gI g, 12, .inl (V 0))), (X 1, .inl (gI g, 480, .inl (V 1))), (X 2, .inl (gI g, 24, .inl (V 2))), (X 3, .inl (gI g, 24, .inl (V 3))), (X 4, .inl (gI g, 24, .inl (V 4))), (X 5, .inl (gI g, 192, .inl (V 5))), (X 6, .inl (gI g, 24, .inl (V 6))), (X 7, .inl (gI g, 24, .inl (V 7))), (X 8, .inl (gI g, 24, .inl (V 8)))] := hD
  refine lv_aload_n hx hb dX3_unseal_0 rfl (lv_at hl 0 rfl) ?_
  refine lv_iconst (v := 0) hx hb dX3_unseal_1 (by decide +kernel) ?_
  refine va_put (D := gD g) (ci := 3) (v := .int (0)) (ty := .int) (C := RX3) (T := TX3) (N := 12) hx hb hts iX3 tyX3 tyX3_ok nmX3 hown hK.1 hP hD hS 0 rfl rfl 0 (by decide) f37 (fun _ h9 => h9) rfl (by decide +kernel) rfl rfl (Nat.le_of_ble_eq_true rfl) dX3_unseal_2 (fun H locs hP hD hS => ?_)
  have hP : va_P (gD g) vwCl [(h, .inr (3, [.int (0), .int (nI lc), .ref (X 0), .ref (X 1), .int (nI ec), .ref (X 2), .ref (X 3), .ref (X 4), .ref (X 5), .ref (X 6), .ref (X 7), .ref (X 8)])), (X 0, .inl (gI g, 12, .inl (V 0))), (X 1, .inl (gI g, 480, .inl (V 1))), (X 2, .inl (gI g, 24, .inl (V 2))), (X 3, .inl (gI g, 24, .inl (V 3))), (X 4, .inl (gI g, 24, .inl (V 4))), (X 5, .inl (gI g, 192, .inl (V 5))), (X 6, .inl (gI g, 24, .inl (V 6))), (X 7, .inl (gI g, 24, .inl (V 7))), (X 8, .inl (gI g, 24, .inl (V 8)))] H := hP
  have hD : va_D A [(h, .inr (3, [.int (0), .int (nI lc), .ref (X 0), .ref (X 1), .int (nI ec), .ref (X 2), .ref (X 3), .ref (X 4), .ref (X 5), .ref (X 6), .ref (X 7), .ref (X 8)])), (X 0, .inl (gI g, 12, .inl (V 0))), (X 1, .inl (gI g, 480, .inl (V 1))), (X 2, .inl (gI g, 24, .inl (V 2))), (X 3, .inl (gI g, 24, .inl (V 3))), (X 4, .inl (gI g, 24, .inl (V 4))), (X 5, .inl (gI g, 192, .inl (V 5))), (X 6, .inl (gI g, 24, .inl (V 6))), (X 7, .inl (gI g, 24, .inl (V 7))), (X 8, .inl (gI g, 24, .inl (V 8)))] := hD
  refine lv_aload_n hx hb dX3_unseal_5 rfl (lv_at hl 0 rfl) ?_
  refine va_get (D := gD g) (ci := 3) (v := .int (nI ec)) (C := RX3) (T := TX3) (N := 12) hx hb hts iX3 hown hK.1 hP 0 rfl rfl 4 (by decide) f48 (fun _ h9 => h9) rfl dX3_unseal_6 ?_
  refine br_ne0 (a := ec) (tgt := 18) hx hb (by omega) dX3_unseal_9 (by decide) (fun c9 => ?_) (fun c9 => ?_)
  · omega
  · refine lv_aload_n hx hb dX3_unseal_12 rfl (lv_at hl 0 rfl) ?_
    refine lv_iconst (v := 1) hx hb dX3_unseal_13 (by decide +kernel) ?_
    refine w_V (As := [.int (1)]) (rest := []) S (c_X3_no l g h X V 0 lc ec (1)) (cwV 1 hts gX3_unseal_X3_no rfl rfl rfl (by decide +kernel) ⟨Nat.le_of_ble_eq_true rfl, Nat.le_of_ble_eq_true rfl⟩) hK (va_recv hK.1 hP (ci := 3) (q0 := 0) rfl rfl) hP (hD.weaken (fun _ _ _ _ => trivial)) hS (wA_D hD [0, 1, 2, 3, 4, 5, 6, 7, 8, 9] rfl) rfl hl.1 rfl (Nat.le_of_ble_eq_true rfl) dX3_unseal_14 ⟨Nat.le_of_ble_eq_true rfl, Nat.le_of_ble_eq_true rfl⟩ (fun H locs hP1 hz1 hk1 hS => ?_)
    have hP : va_P (gD g) vwCl [(h, .inr (3, [.int (1), .int (nI lc), .ref (X 0), .ref (X 1), .int (nI ec), .ref (X 2), .ref (X 3), .ref (X 4), .ref (X 5), .ref (X 6), .ref (X 7), .ref (X 8)])), (X 0, .inl (gI g, 12, .inl (V 0))), (X 1, .inl (gI g, 480, .inl (V 1))), (X 2, .inl (gI g, 24, .inl (V 2))), (X 3, .inl (gI g, 24, .inl (V 3))), (X 4, .inl (gI g, 24, .inl (V 4))), (X 5, .inl (gI g, 192, .inl (V 5))), (X 6, .inl (gI g, 24, .inl (V 6))), (X 7, .inl (gI g, 24, .inl (V 7))), (X 8, .inl (gI g, 24, .inl (V 8)))] H := hP1
    have hD : va_D A [(h, .inr (3, [.int (1), .int (nI lc), .ref (X 0), .ref (X 1), .int (nI ec), .ref (X 2), .ref (X 3), .ref (X 4), .ref (X 5), .ref (X 6), .ref (X 7), .ref (X 8)])), (X 0, .inl (gI g, 12, .inl (V 0))), (X 1, .inl (gI g, 480, .inl (V 1))), (X 2, .inl (gI g, 24, .inl (V 2))), (X 3, .inl (gI g, 24, .inl (V 3))), (X 4, .inl (gI g, 24, .inl (V 4))), (X 5, .inl (gI g, 192, .inl (V 5))), (X 6, .inl (gI g, 24, .inl (V 6))), (X 7, .inl (gI g, 24, .inl (V 7))), (X 8, .inl (gI g, 24, .inl (V 8)))] := D_same hD rfl
    exact hret _ _ _ _ hP hS dX3_unseal_17

set_option maxHeartbeats 4000000 in
set_option maxRecDepth 100000 in
/-- letters -/
theorem c_X3_letters (l : Launch) (g : gT) (h : Nat) (X : Nat → Nat) (V : Nat → Nat → Int32) (th : Int32) (lc ec : Nat) (hlc : lc ≤ 12) (hec : ec ≤ 24) : wM g l yX3_letters wsX3_letters { frames := 1, cells := 0, slots := 0, locals := 21 } [.ref (h)] (mdW g h X V th lc ec) (some (.int (nI lc))) (mdW g h X V 0 lc ec) := by
  refine wr_ofI (cc := cX3_letters) (maxL := 1) (by decide) rfl (Nat.le_of_ble_eq_true rfl) ?_
  intro p e s m args below meth c H0 ls A Q hx hb hml hts hown hK hP hD hS hl hret
  have hl : lv_has ls 1 [(0, .ref (h))] := hl
  have S : CallFix p m c cX3_letters 1 s args wsX3_letters RX3 := ⟨hx, hb, hml, hown, hts⟩
  have iX3 : ∀ w ∈ u_ws RX3 TX3 12, w ∈ wsX3_letters := by decide +kernel
  have f41 := hts (.fieldLink RX3 41 "LetterSealsModel" "letters" "I") (by decide +kernel)
  obtain ⟨H, eH⟩ : ∃ H : Heap, H = H0 := ⟨_, rfl⟩
  rw [← eH] at hP ⊢
  have hS : va_S A H0 H [] := by rw [eH]; exact hS
  have hP : va_P (gD g) vwCl [(h, .inr (3, [.int (th), .int (nI lc), .ref (X 0), .ref (X 1), .int (nI ec), .ref (X 2), .ref (X 3), .ref (X 4), .ref (X 5), .ref (X 6), .ref (X 7), .ref (X 8)])), (X 0, .inl (gI g, 12, .inl (V 0))), (X 1, .inl (gI g, 480, .inl (V 1))), (X 2, .inl (gI g, 24, .inl (V 2))), (X 3, .inl (gI g, 24, .inl (V 3))), (X 4, .inl (gI g, 24, .inl (V 4))), (X 5, .inl (gI g, 192, .inl (V 5))), (X 6, .inl (gI g, 24, .inl (V 6))), (X 7, .inl (gI g, 24, .inl (V 7))), (X 8, .inl (gI g, 24, .inl (V 8)))] H := hP
  have hD : va_D A [(h, .inr (3, [.int (th), .int (nI lc), .ref (X 0), .ref (X 1), .int (nI ec), .ref (X 2), .ref (X 3), .ref (X 4), .ref (X 5), .ref (X 6), .ref (X 7), .ref (X 8)])), (X 0, .inl (gI g, 12, .inl (V 0))), (X 1, .inl (gI g, 480, .inl (V 1))), (X 2, .inl (gI g, 24, .inl (V 2))), (X 3, .inl (gI g, 24, .inl (V 3))), (X 4, .inl (gI g, 24, .inl (V 4))), (X 5, .inl (gI g, 192, .inl (V 5))), (X 6, .inl (gI g, 24, .inl (V 6))), (X 7, .inl (gI g, 24, .inl (V 7))), (X 8, .inl (gI g, 24, .inl (V 8)))] := hD
  refine lv_aload_n hx hb dX3_letters_0 rfl (lv_at hl 0 rfl) ?_
  refine lv_aload_n hx hb dX3_letters_1 rfl (lv_at hl 0 rfl) ?_
  refine va_get (D := gD g) (ci := 3) (v := .int (nI lc)) (C := RX3) (T := TX3) (N := 12) hx hb hts iX3 hown hK.1 hP 0 rfl rfl 1 (by decide) f41 (fun _ h9 => h9) rfl dX3_letters_2 ?_
  refine w_V (As := [.int (nI lc)]) (rest := []) S (c_X3_ok l g h X V th lc ec (nI lc)) (cwV 1 hts gX3_letters_X3_ok rfl rfl rfl (by decide +kernel) ⟨Nat.le_of_ble_eq_true rfl, Nat.le_of_ble_eq_true rfl⟩) hK (va_recv hK.1 hP (ci := 3) (q0 := 0) rfl rfl) hP (hD.weaken (fun _ _ _ _ => trivial)) hS (wA_D hD [0, 1, 2, 3, 4, 5, 6, 7, 8, 9] rfl) rfl hl.1 rfl (Nat.le_of_ble_eq_true rfl) dX3_letters_5 ⟨Nat.le_of_ble_eq_true rfl, Nat.le_of_ble_eq_true rfl⟩ (fun H locs hP1 hz1 hk1 hS => ?_)
  have hP : va_P (gD g) vwCl [(h, .inr (3, [.int (0), .int (nI lc), .ref (X 0), .ref (X 1), .int (nI ec), .ref (X 2), .ref (X 3), .ref (X 4), .ref (X 5), .ref (X 6), .ref (X 7), .ref (X 8)])), (X 0, .inl (gI g, 12, .inl (V 0))), (X 1, .inl (gI g, 480, .inl (V 1))), (X 2, .inl (gI g, 24, .inl (V 2))), (X 3, .inl (gI g, 24, .inl (V 3))), (X 4, .inl (gI g, 24, .inl (V 4))), (X 5, .inl (gI g, 192, .inl (V 5))), (X 6, .inl (gI g, 24, .inl (V 6))), (X 7, .inl (gI g, 24, .inl (V 7))), (X 8, .inl (gI g, 24, .inl (V 8)))] H := hP1
  have hD : va_D A [(h, .inr (3, [.int (0), .int (nI lc), .ref (X 0), .ref (X 1), .int (nI ec), .ref (X 2), .ref (X 3), .ref (X 4), .ref (X 5), .ref (X 6), .ref (X 7), .ref (X 8)])), (X 0, .inl (gI g, 12, .inl (V 0))), (X 1, .inl (gI g, 480, .inl (V 1))), (X 2, .inl (gI g, 24, .inl (V 2))), (X 3, .inl (gI g, 24, .inl (V 3))), (X 4, .inl (gI g, 24, .inl (V 4))), (X 5, .inl (gI g, 192, .inl (V 5))), (X 6, .inl (gI g, 24, .inl (V 6))), (X 7, .inl (gI g, 24, .inl (V 7))), (X 8, .inl (gI g, 24, .inl (V 8)))] := D_same hD rfl
  exact hret _ _ _ _ hP hS dX3_letters_8

set_option maxHeartbeats 4000000 in
set_option maxRecDepth 100000 in
/-- envelopes -/
theorem c_X3_envelopes (l : Launch) (g : gT) (h : Nat) (X : Nat → Nat) (V : Nat → Nat → Int32) (th : Int32) (lc ec : Nat) (hlc : lc ≤ 12) (hec : ec ≤ 24) : wM g l yX3_envelopes wsX3_envelopes { frames := 1, cells := 0, slots := 0, locals := 21 } [.ref (h)] (mdW g h X V th lc ec) (some (.int (nI ec))) (mdW g h X V 0 lc ec) := by
  refine wr_ofI (cc := cX3_envelopes) (maxL := 1) (by decide) rfl (Nat.le_of_ble_eq_true rfl) ?_
  intro p e s m args below meth c H0 ls A Q hx hb hml hts hown hK hP hD hS hl hret
  have hl : lv_has ls 1 [(0, .ref (h))] := hl
  have S : CallFix p m c cX3_envelopes 1 s args wsX3_envelopes RX3 := ⟨hx, hb, hml, hown, hts⟩
  have iX3 : ∀ w ∈ u_ws RX3 TX3 12, w ∈ wsX3_envelopes := by decide +kernel
  have f48 := hts (.fieldLink RX3 48 "LetterSealsModel" "envelopes" "I") (by decide +kernel)
  obtain ⟨H, eH⟩ : ∃ H : Heap, H = H0 := ⟨_, rfl⟩
  rw [← eH] at hP ⊢
  have hS : va_S A H0 H [] := by rw [eH]; exact hS
  have hP : va_P (gD g) vwCl [(h, .inr (3, [.int (th), .int (nI lc), .ref (X 0), .ref (X 1), .int (nI ec), .ref (X 2), .ref (X 3), .ref (X 4), .ref (X 5), .ref (X 6), .ref (X 7), .ref (X 8)])), (X 0, .inl (gI g, 12, .inl (V 0))), (X 1, .inl (gI g, 480, .inl (V 1))), (X 2, .inl (gI g, 24, .inl (V 2))), (X 3, .inl (gI g, 24, .inl (V 3))), (X 4, .inl (gI g, 24, .inl (V 4))), (X 5, .inl (gI g, 192, .inl (V 5))), (X 6, .inl (gI g, 24, .inl (V 6))), (X 7, .inl (gI g, 24, .inl (V 7))), (X 8, .inl (gI g, 24, .inl (V 8)))] H := hP
  have hD : va_D A [(h, .inr (3, [.int (th), .int (nI lc), .ref (X 0), .ref (X 1), .int (nI ec), .ref (X 2), .ref (X 3), .ref (X 4), .ref (X 5), .ref (X 6), .ref (X 7), .ref (X 8)])), (X 0, .inl (gI g, 12, .inl (V 0))), (X 1, .inl (gI g, 480, .inl (V 1))), (X 2, .inl (gI g, 24, .inl (V 2))), (X 3, .inl (gI g, 24, .inl (V 3))), (X 4, .inl (gI g, 24, .inl (V 4))), (X 5, .inl (gI g, 192, .inl (V 5))), (X 6, .inl (gI g, 24, .inl (V 6))), (X 7, .inl (gI g, 24, .inl (V 7))), (X 8, .inl (gI g, 24, .inl (V 8)))] := hD
  refine lv_aload_n hx hb dX3_envelopes_0 rfl (lv_at hl 0 rfl) ?_
  refine lv_aload_n hx hb dX3_envelopes_1 rfl (lv_at hl 0 rfl) ?_
  refine va_get (D := gD g) (ci := 3) (v := .int (nI ec)) (C := RX3) (T := TX3) (N := 12) hx hb hts iX3 hown hK.1 hP 0 rfl rfl 4 (by decide) f48 (fun _ h9 => h9) rfl dX3_envelopes_2 ?_
  refine w_V (As := [.int (nI ec)]) (rest := []) S (c_X3_ok l g h X V th lc ec (nI ec)) (cwV 1 hts gX3_envelopes_X3_ok rfl rfl rfl (by decide +kernel) ⟨Nat.le_of_ble_eq_true rfl, Nat.le_of_ble_eq_true rfl⟩) hK (va_recv hK.1 hP (ci := 3) (q0 := 0) rfl rfl) hP (hD.weaken (fun _ _ _ _ => trivial)) hS (wA_D hD [0, 1, 2, 3, 4, 5, 6, 7, 8, 9] rfl) rfl hl.1 rfl (Nat.le_of_ble_eq_true rfl) dX3_envelopes_5 ⟨Nat.le_of_ble_eq_true rfl, Nat.le_of_ble_eq_true rfl⟩ (fun H locs hP1 hz1 hk1 hS => ?_)
  have hP : va_P (gD g) vwCl [(h, .inr (3, [.int (0), .int (nI lc), .ref (X 0), .ref (X 1), .int (nI ec), .ref (X 2), .ref (X 3), .ref (X 4), .ref (X 5), .ref (X 6), .ref (X 7), .ref (X 8)])), (X 0, .inl (gI g, 12, .inl (V 0))), (X 1, .inl (gI g, 480, .inl (V 1))), (X 2, .inl (gI g, 24, .inl (V 2))), (X 3, .inl (gI g, 24, .inl (V 3))), (X 4, .inl (gI g, 24, .inl (V 4))), (X 5, .inl (gI g, 192, .inl (V 5))), (X 6, .inl (gI g, 24, .inl (V 6))), (X 7, .inl (gI g, 24, .inl (V 7))), (X 8, .inl (gI g, 24, .inl (V 8)))] H := hP1
  have hD : va_D A [(h, .inr (3, [.int (0), .int (nI lc), .ref (X 0), .ref (X 1), .int (nI ec), .ref (X 2), .ref (X 3), .ref (X 4), .ref (X 5), .ref (X 6), .ref (X 7), .ref (X 8)])), (X 0, .inl (gI g, 12, .inl (V 0))), (X 1, .inl (gI g, 480, .inl (V 1))), (X 2, .inl (gI g, 24, .inl (V 2))), (X 3, .inl (gI g, 24, .inl (V 3))), (X 4, .inl (gI g, 24, .inl (V 4))), (X 5, .inl (gI g, 192, .inl (V 5))), (X 6, .inl (gI g, 24, .inl (V 6))), (X 7, .inl (gI g, 24, .inl (V 7))), (X 8, .inl (gI g, 24, .inl (V 8)))] := D_same hD rfl
  exact hret _ _ _ _ hP hS dX3_envelopes_8

set_option maxHeartbeats 4000000 in
set_option maxRecDepth 100000 in
/-- doubles -/
theorem c_X3_doubles (l : Launch) (g : gT) (h : Nat) (X : Nat → Nat) (V : Nat → Nat → Int32) (th : Int32) (lc ec : Nat) (NN : Nat → Nat) (hlc : lc ≤ 12) (hec : ec ≤ 24) (hNN : ∀ i, i < lc → V 0 i = nI (NN i) ∧ NN i ≤ 40) : wM g l yX3_doubles wsX3_doubles { frames := 4, cells := 0, slots := 0, locals := 91 } [.ref (h)] (mdW g h X V th lc ec) (some (.int (prM (dbP (rwV V) NN) lc))) (mdW g h X V 0 lc ec) := by
  refine wr_ofI (cc := cX3_doubles) (maxL := 1) (by decide) rfl (Nat.le_of_ble_eq_true rfl) ?_
  intro p e s m args below meth c H0 ls A Q hx hb hml hts hown hK hP hD hS hl hret
  have hl : lv_has ls 1 [(0, .ref (h))] := hl
  have S : CallFix p m c cX3_doubles 1 s args wsX3_doubles RX3 := ⟨hx, hb, hml, hown, hts⟩
  obtain ⟨H, eH⟩ : ∃ H : Heap, H = H0 := ⟨_, rfl⟩
  rw [← eH] at hP ⊢
  have hS : va_S A H0 H [] := by rw [eH]; exact hS
  have hP : va_P (gD g) vwCl [(h, .inr (3, [.int (th), .int (nI lc), .ref (X 0), .ref (X 1), .int (nI ec), .ref (X 2), .ref (X 3), .ref (X 4), .ref (X 5), .ref (X 6), .ref (X 7), .ref (X 8)])), (X 0, .inl (gI g, 12, .inl (V 0))), (X 1, .inl (gI g, 480, .inl (V 1))), (X 2, .inl (gI g, 24, .inl (V 2))), (X 3, .inl (gI g, 24, .inl (V 3))), (X 4, .inl (gI g, 24, .inl (V 4))), (X 5, .inl (gI g, 192, .inl (V 5))), (X 6, .inl (gI g, 24, .inl (V 6))), (X 7, .inl (gI g, 24, .inl (V 7))), (X 8, .inl (gI g, 24, .inl (V 8)))] H := hP
  have hD : va_D A [(h, .inr (3, [.int (th), .int (nI lc), .ref (X 0), .ref (X 1), .int (nI ec), .ref (X 2), .ref (X 3), .ref (X 4), .ref (X 5), .ref (X 6), .ref (X 7), .ref (X 8)])), (X 0, .inl (gI g, 12, .inl (V 0))), (X 1, .inl (gI g, 480, .inl (V 1))), (X 2, .inl (gI g, 24, .inl (V 2))), (X 3, .inl (gI g, 24, .inl (V 3))), (X 4, .inl (gI g, 24, .inl (V 4))), (X 5, .inl (gI g, 192, .inl (V 5))), (X 6, .inl (gI g, 24, .inl (V 6))), (X 7, .inl (gI g, 24, .inl (V 7))), (X 8, .inl (gI g, 24, .inl (V 8)))] := hD
  refine lv_aload_n hx hb dX3_doubles_0 rfl (lv_at hl 0 rfl) ?_
  refine lv_aload_n hx hb dX3_doubles_1 rfl (lv_at hl 0 rfl) ?_
  refine p_V (As := []) (rest := [.ref (h)]) S (c_X3_doublesNow l g h X V th lc ec NN hlc hec hNN) (cwV 0 hts gX3_doubles_X3_doublesNow rfl rfl rfl (by decide +kernel) ⟨Nat.le_of_ble_eq_true rfl, Nat.le_of_ble_eq_true rfl⟩) hK (va_recv hK.1 hP (ci := 3) (q0 := 0) rfl rfl) (hP) rfl hl.1 rfl (Nat.le_of_ble_eq_true rfl) dX3_doubles_2 ⟨Nat.le_of_ble_eq_true rfl, Nat.le_of_ble_eq_true rfl⟩ ?_
  refine w_V (As := [.int (prM (dbP (rwV V) NN) lc)]) (rest := []) S (c_X3_ok l g h X V th lc ec (prM (dbP (rwV V) NN) lc)) (cwV 1 hts gX3_doubles_X3_ok rfl rfl rfl (by decide +kernel) ⟨Nat.le_of_ble_eq_true rfl, Nat.le_of_ble_eq_true rfl⟩) hK (va_recv hK.1 hP (ci := 3) (q0 := 0) rfl rfl) hP (hD.weaken (fun _ _ _ _ => trivial)) hS (wA_D hD [0, 1, 2, 3, 4, 5, 6, 7, 8, 9] rfl) rfl hl.1 rfl (Nat.le_of_ble_eq_true rfl) dX3_doubles_5 ⟨Nat.le_of_ble_eq_true rfl, Nat.le_of_ble_eq_true rfl⟩ (fun H locs hP1 hz1 hk1 hS => ?_)
  have hP : va_P (gD g) vwCl [(h, .inr (3, [.int (0), .int (nI lc), .ref (X 0), .ref (X 1), .int (nI ec), .ref (X 2), .ref (X 3), .ref (X 4), .ref (X 5), .ref (X 6), .ref (X 7), .ref (X 8)])), (X 0, .inl (gI g, 12, .inl (V 0))), (X 1, .inl (gI g, 480, .inl (V 1))), (X 2, .inl (gI g, 24, .inl (V 2))), (X 3, .inl (gI g, 24, .inl (V 3))), (X 4, .inl (gI g, 24, .inl (V 4))), (X 5, .inl (gI g, 192, .inl (V 5))), (X 6, .inl (gI g, 24, .inl (V 6))), (X 7, .inl (gI g, 24, .inl (V 7))), (X 8, .inl (gI g, 24, .inl (V 8)))] H := hP1
  have hD : va_D A [(h, .inr (3, [.int (0), .int (nI lc), .ref (X 0), .ref (X 1), .int (nI ec), .ref (X 2), .ref (X 3), .ref (X 4), .ref (X 5), .ref (X 6), .ref (X 7), .ref (X 8)])), (X 0, .inl (gI g, 12, .inl (V 0))), (X 1, .inl (gI g, 480, .inl (V 1))), (X 2, .inl (gI g, 24, .inl (V 2))), (X 3, .inl (gI g, 24, .inl (V 3))), (X 4, .inl (gI g, 24, .inl (V 4))), (X 5, .inl (gI g, 192, .inl (V 5))), (X 6, .inl (gI g, 24, .inl (V 6))), (X 7, .inl (gI g, 24, .inl (V 7))), (X 8, .inl (gI g, 24, .inl (V 8)))] := D_same hD rfl
  exact hret _ _ _ _ hP hS dX3_doubles_8

set_option maxHeartbeats 4000000 in
set_option maxRecDepth 100000 in
/-- firstBroken -/
theorem c_X3_firstBroken (l : Launch) (g : gT) (h : Nat) (X : Nat → Nat) (V : Nat → Nat → Int32) (th : Int32) (lc ec : Nat) (NN : Nat → Nat) (hlc : lc ≤ 12) (hec : ec ≤ 24) (hNN : ∀ i, i < lc → V 0 i = nI (NN i) ∧ NN i ≤ 40) (LN SC : Nat → Nat) (hEN : ∀ q, q < ec → V 2 q = nI (LN q) ∧ LN q < lc ∧ V 4 q = nI (SC q) ∧ SC q ≤ 40) : wM g l yX3_firstBroken wsX3_firstBroken { frames := 5, cells := 0, slots := 0, locals := 110 } [.ref (h)] (mdW g h X V th lc ec) (some (.int (fsF (fun q => !asP V NN LN q) ec 0))) (mdW g h X V 0 lc ec) := by
  refine wr_ofI (cc := cX3_firstBroken) (maxL := 1) (by decide) rfl (Nat.le_of_ble_eq_true rfl) ?_
  intro p e s m args below meth c H0 ls A Q hx hb hml hts hown hK hP hD hS hl hret
  have hl : lv_has ls 1 [(0, .ref (h))] := hl
  have S : CallFix p m c cX3_firstBroken 1 s args wsX3_firstBroken RX3 := ⟨hx, hb, hml, hown, hts⟩
  obtain ⟨H, eH⟩ : ∃ H : Heap, H = H0 := ⟨_, rfl⟩
  rw [← eH] at hP ⊢
  have hS : va_S A H0 H [] := by rw [eH]; exact hS
  have hP : va_P (gD g) vwCl [(h, .inr (3, [.int (th), .int (nI lc), .ref (X 0), .ref (X 1), .int (nI ec), .ref (X 2), .ref (X 3), .ref (X 4), .ref (X 5), .ref (X 6), .ref (X 7), .ref (X 8)])), (X 0, .inl (gI g, 12, .inl (V 0))), (X 1, .inl (gI g, 480, .inl (V 1))), (X 2, .inl (gI g, 24, .inl (V 2))), (X 3, .inl (gI g, 24, .inl (V 3))), (X 4, .inl (gI g, 24, .inl (V 4))), (X 5, .inl (gI g, 192, .inl (V 5))), (X 6, .inl (gI g, 24, .inl (V 6))), (X 7, .inl (gI g, 24, .inl (V 7))), (X 8, .inl (gI g, 24, .inl (V 8)))] H := hP
  have hD : va_D A [(h, .inr (3, [.int (th), .int (nI lc), .ref (X 0), .ref (X 1), .int (nI ec), .ref (X 2), .ref (X 3), .ref (X 4), .ref (X 5), .ref (X 6), .ref (X 7), .ref (X 8)])), (X 0, .inl (gI g, 12, .inl (V 0))), (X 1, .inl (gI g, 480, .inl (V 1))), (X 2, .inl (gI g, 24, .inl (V 2))), (X 3, .inl (gI g, 24, .inl (V 3))), (X 4, .inl (gI g, 24, .inl (V 4))), (X 5, .inl (gI g, 192, .inl (V 5))), (X 6, .inl (gI g, 24, .inl (V 6))), (X 7, .inl (gI g, 24, .inl (V 7))), (X 8, .inl (gI g, 24, .inl (V 8)))] := hD
  refine lv_aload_n hx hb dX3_firstBroken_0 rfl (lv_at hl 0 rfl) ?_
  refine lv_aload_n hx hb dX3_firstBroken_1 rfl (lv_at hl 0 rfl) ?_
  refine p_V (As := []) (rest := [.ref (h)]) S (c_X3_broken l g h X V th lc ec NN hlc hec hNN LN SC hEN) (cwV 0 hts gX3_firstBroken_X3_broken rfl rfl rfl (by decide +kernel) ⟨Nat.le_of_ble_eq_true rfl, Nat.le_of_ble_eq_true rfl⟩) hK (va_recv hK.1 hP (ci := 3) (q0 := 0) rfl rfl) (hP) rfl hl.1 rfl (Nat.le_of_ble_eq_true rfl) dX3_firstBroken_2 ⟨Nat.le_of_ble_eq_true rfl, Nat.le_of_ble_eq_true rfl⟩ ?_
  refine w_V (As := [.int (fsF (fun q => !asP V NN LN q) ec 0)]) (rest := []) S (c_X3_ok l g h X V th lc ec (fsF (fun q => !asP V NN LN q) ec 0)) (cwV 1 hts gX3_firstBroken_X3_ok rfl rfl rfl (by decide +kernel) ⟨Nat.le_of_ble_eq_true rfl, Nat.le_of_ble_eq_true rfl⟩) hK (va_recv hK.1 hP (ci := 3) (q0 := 0) rfl rfl) hP (hD.weaken (fun _ _ _ _ => trivial)) hS (wA_D hD [0, 1, 2, 3, 4, 5, 6, 7, 8, 9] rfl) rfl hl.1 rfl (Nat.le_of_ble_eq_true rfl) dX3_firstBroken_5 ⟨Nat.le_of_ble_eq_true rfl, Nat.le_of_ble_eq_true rfl⟩ (fun H locs hP1 hz1 hk1 hS => ?_)
  have hP : va_P (gD g) vwCl [(h, .inr (3, [.int (0), .int (nI lc), .ref (X 0), .ref (X 1), .int (nI ec), .ref (X 2), .ref (X 3), .ref (X 4), .ref (X 5), .ref (X 6), .ref (X 7), .ref (X 8)])), (X 0, .inl (gI g, 12, .inl (V 0))), (X 1, .inl (gI g, 480, .inl (V 1))), (X 2, .inl (gI g, 24, .inl (V 2))), (X 3, .inl (gI g, 24, .inl (V 3))), (X 4, .inl (gI g, 24, .inl (V 4))), (X 5, .inl (gI g, 192, .inl (V 5))), (X 6, .inl (gI g, 24, .inl (V 6))), (X 7, .inl (gI g, 24, .inl (V 7))), (X 8, .inl (gI g, 24, .inl (V 8)))] H := hP1
  have hD : va_D A [(h, .inr (3, [.int (0), .int (nI lc), .ref (X 0), .ref (X 1), .int (nI ec), .ref (X 2), .ref (X 3), .ref (X 4), .ref (X 5), .ref (X 6), .ref (X 7), .ref (X 8)])), (X 0, .inl (gI g, 12, .inl (V 0))), (X 1, .inl (gI g, 480, .inl (V 1))), (X 2, .inl (gI g, 24, .inl (V 2))), (X 3, .inl (gI g, 24, .inl (V 3))), (X 4, .inl (gI g, 24, .inl (V 4))), (X 5, .inl (gI g, 192, .inl (V 5))), (X 6, .inl (gI g, 24, .inl (V 6))), (X 7, .inl (gI g, 24, .inl (V 7))), (X 8, .inl (gI g, 24, .inl (V 8)))] := D_same hD rfl
  exact hret _ _ _ _ hP hS dX3_firstBroken_8

set_option maxHeartbeats 4000000 in
set_option maxRecDepth 100000 in
/-- signsOf -/
theorem c_X3_signsOf (l : Launch) (g : gT) (h : Nat) (X : Nat → Nat) (V : Nat → Nat → Int32) (th : Int32) (lc ec : Nat) (NN : Nat → Nat) (hlc : lc ≤ 12) (hec : ec ≤ 24) (hNN : ∀ i, i < lc → V 0 i = nI (NN i) ∧ NN i ≤ 40) (k : Nat) (hk : k < lc) : wM g l yX3_signsOf wsX3_signsOf { frames := 2, cells := 0, slots := 0, locals := 43 } [.ref (h), .int (nI k)] (mdW g h X V th lc ec) (some (.int (nI (NN k)))) (mdW g h X V 0 lc ec) := by
  refine wr_ofI (cc := cX3_signsOf) (maxL := 2) (by decide) rfl (Nat.le_of_ble_eq_true rfl) ?_
  intro p e s m args below meth c H0 ls A Q hx hb hml hts hown hK hP hD hS hl hret
  have hl : lv_has ls 2 [(0, .ref (h)), (1, .int (nI k))] := hl
  have S : CallFix p m c cX3_signsOf 2 s args wsX3_signsOf RX3 := ⟨hx, hb, hml, hown, hts⟩
  have hgk : inB (nI k) lc = true := inB_nI hk (by omega)
  have hVn := (hNN k hk).1
  have hn := (hNN k hk).2
  have iX3 : ∀ w ∈ u_ws RX3 TX3 12, w ∈ wsX3_signsOf := by decide +kernel
  have f9 := hts (.fieldLink RX3 9 "LetterSealsModel" "many" "[I") (by decide +kernel)
  have f37 := hts (.fieldLink RX3 37 "LetterSealsModel" "thrown" "I") (by decide +kernel)
  obtain ⟨H, eH⟩ : ∃ H : Heap, H = H0 := ⟨_, rfl⟩
  rw [← eH] at hP ⊢
  have hS : va_S A H0 H [] := by rw [eH]; exact hS
  have hP : va_P (gD g) vwCl [(h, .inr (3, [.int (th), .int (nI lc), .ref (X 0), .ref (X 1), .int (nI ec), .ref (X 2), .ref (X 3), .ref (X 4), .ref (X 5), .ref (X 6), .ref (X 7), .ref (X 8)])), (X 0, .inl (gI g, 12, .inl (V 0))), (X 1, .inl (gI g, 480, .inl (V 1))), (X 2, .inl (gI g, 24, .inl (V 2))), (X 3, .inl (gI g, 24, .inl (V 3))), (X 4, .inl (gI g, 24, .inl (V 4))), (X 5, .inl (gI g, 192, .inl (V 5))), (X 6, .inl (gI g, 24, .inl (V 6))), (X 7, .inl (gI g, 24, .inl (V 7))), (X 8, .inl (gI g, 24, .inl (V 8)))] H := hP
  have hD : va_D A [(h, .inr (3, [.int (th), .int (nI lc), .ref (X 0), .ref (X 1), .int (nI ec), .ref (X 2), .ref (X 3), .ref (X 4), .ref (X 5), .ref (X 6), .ref (X 7), .ref (X 8)])), (X 0, .inl (gI g, 12, .inl (V 0))), (X 1, .inl (gI g, 480, .inl (V 1))), (X 2, .inl (gI g, 24, .inl (V 2))), (X 3, .inl (gI g, 24, .inl (V 3))), (X 4, .inl (gI g, 24, .inl (V 4))), (X 5, .inl (gI g, 192, .inl (V 5))), (X 6, .inl (gI g, 24, .inl (V 6))), (X 7, .inl (gI g, 24, .inl (V 7))), (X 8, .inl (gI g, 24, .inl (V 8)))] := hD
  refine lv_aload_n hx hb dX3_signsOf_0 rfl (lv_at hl 0 rfl) ?_
  refine lv_iconst (v := 0) hx hb dX3_signsOf_1 (by decide +kernel) ?_
  refine va_put (D := gD g) (ci := 3) (v := .int (0)) (ty := .int) (C := RX3) (T := TX3) (N := 12) hx hb hts iX3 tyX3 tyX3_ok nmX3 hown hK.1 hP hD hS 0 rfl rfl 0 (by decide) f37 (fun _ h9 => h9) rfl (by decide +kernel) rfl rfl (Nat.le_of_ble_eq_true rfl) dX3_signsOf_2 (fun H locs hP hD hS => ?_)
  have hP : va_P (gD g) vwCl [(h, .inr (3, [.int (0), .int (nI lc), .ref (X 0), .ref (X 1), .int (nI ec), .ref (X 2), .ref (X 3), .ref (X 4), .ref (X 5), .ref (X 6), .ref (X 7), .ref (X 8)])), (X 0, .inl (gI g, 12, .inl (V 0))), (X 1, .inl (gI g, 480, .inl (V 1))), (X 2, .inl (gI g, 24, .inl (V 2))), (X 3, .inl (gI g, 24, .inl (V 3))), (X 4, .inl (gI g, 24, .inl (V 4))), (X 5, .inl (gI g, 192, .inl (V 5))), (X 6, .inl (gI g, 24, .inl (V 6))), (X 7, .inl (gI g, 24, .inl (V 7))), (X 8, .inl (gI g, 24, .inl (V 8)))] H := hP
  have hD : va_D A [(h, .inr (3, [.int (0), .int (nI lc), .ref (X 0), .ref (X 1), .int (nI ec), .ref (X 2), .ref (X 3), .ref (X 4), .ref (X 5), .ref (X 6), .ref (X 7), .ref (X 8)])), (X 0, .inl (gI g, 12, .inl (V 0))), (X 1, .inl (gI g, 480, .inl (V 1))), (X 2, .inl (gI g, 24, .inl (V 2))), (X 3, .inl (gI g, 24, .inl (V 3))), (X 4, .inl (gI g, 24, .inl (V 4))), (X 5, .inl (gI g, 192, .inl (V 5))), (X 6, .inl (gI g, 24, .inl (V 6))), (X 7, .inl (gI g, 24, .inl (V 7))), (X 8, .inl (gI g, 24, .inl (V 8)))] := hD
  refine lv_aload_n hx hb dX3_signsOf_5 rfl (lv_at hl 0 rfl) ?_
  refine lv_iload_n hx hb dX3_signsOf_6 rfl (lv_at hl 1 rfl) ?_
  refine p_V (As := [.int (nI k)]) (rest := []) S (c_X3_isLetter l g h X V 0 lc ec (nI k) hlc hec) (cwV 1 hts gX3_signsOf_X3_isLetter rfl rfl rfl (by decide +kernel) ⟨Nat.le_of_ble_eq_true rfl, Nat.le_of_ble_eq_true rfl⟩) hK (va_recv hK.1 hP (ci := 3) (q0 := 0) rfl rfl) (hP) rfl hl.1 rfl (Nat.le_of_ble_eq_true rfl) dX3_signsOf_7 ⟨Nat.le_of_ble_eq_true rfl, Nat.le_of_ble_eq_true rfl⟩ ?_
  refine br_eqB (tgt := 22) hx hb dX3_signsOf_10 (by decide) (fun c10 => ?_) (fun c10 => ?_)
  · exact absurd c10 (by rw [hgk]; decide)
  · refine lv_aload_n hx hb dX3_signsOf_13 rfl (lv_at hl 0 rfl) ?_
    refine va_get (D := gD g) (ci := 3) (v := .ref (X 0)) (C := RX3) (T := TX3) (N := 12) hx hb hts iX3 hown hK.1 hP 0 rfl rfl 2 (by decide) f9 (fun _ h9 => h9) rfl dX3_signsOf_14 ?_
    refine lv_iload_n hx hb dX3_signsOf_17 rfl (lv_at hl 1 rfl) ?_
    refine ld_I (k := k) (n := 12) (f := V 0) hx hb hK.1 hP 1 rfl (by omega) (by omega) dX3_signsOf_18 ?_
    refine lv_toI (z := nI (NN k)) (hVn) ?_
    refine lv_goto (tgt := 27) hx hb dX3_signsOf_19 (by decide) ?_
    exact hret _ _ _ _ hP hS dX3_signsOf_27

set_option maxHeartbeats 4000000 in
set_option maxRecDepth 100000 in
/-- signsOf_1 -/
theorem c_X3_signsOf_1 (l : Launch) (g : gT) (h : Nat) (X : Nat → Nat) (V : Nat → Nat → Int32) (th : Int32) (lc ec : Nat) (hlc : lc ≤ 12) (hec : ec ≤ 24) (x : Int32) (hxb : inB x lc = false) : wM g l yX3_signsOf wsX3_signsOf { frames := 2, cells := 0, slots := 0, locals := 43 } [.ref (h), .int (x)] (mdW g h X V th lc ec) (some (.int (0))) (mdW g h X V 1 lc ec) := by
  refine wr_ofI (cc := cX3_signsOf) (maxL := 2) (by decide) rfl (Nat.le_of_ble_eq_true rfl) ?_
  intro p e s m args below meth c H0 ls A Q hx hb hml hts hown hK hP hD hS hl hret
  have hl : lv_has ls 2 [(0, .ref (h)), (1, .int (x))] := hl
  have S : CallFix p m c cX3_signsOf 2 s args wsX3_signsOf RX3 := ⟨hx, hb, hml, hown, hts⟩
  have iX3 : ∀ w ∈ u_ws RX3 TX3 12, w ∈ wsX3_signsOf := by decide +kernel
  have f37 := hts (.fieldLink RX3 37 "LetterSealsModel" "thrown" "I") (by decide +kernel)
  obtain ⟨H, eH⟩ : ∃ H : Heap, H = H0 := ⟨_, rfl⟩
  rw [← eH] at hP ⊢
  have hS : va_S A H0 H [] := by rw [eH]; exact hS
  have hP : va_P (gD g) vwCl [(h, .inr (3, [.int (th), .int (nI lc), .ref (X 0), .ref (X 1), .int (nI ec), .ref (X 2), .ref (X 3), .ref (X 4), .ref (X 5), .ref (X 6), .ref (X 7), .ref (X 8)])), (X 0, .inl (gI g, 12, .inl (V 0))), (X 1, .inl (gI g, 480, .inl (V 1))), (X 2, .inl (gI g, 24, .inl (V 2))), (X 3, .inl (gI g, 24, .inl (V 3))), (X 4, .inl (gI g, 24, .inl (V 4))), (X 5, .inl (gI g, 192, .inl (V 5))), (X 6, .inl (gI g, 24, .inl (V 6))), (X 7, .inl (gI g, 24, .inl (V 7))), (X 8, .inl (gI g, 24, .inl (V 8)))] H := hP
  have hD : va_D A [(h, .inr (3, [.int (th), .int (nI lc), .ref (X 0), .ref (X 1), .int (nI ec), .ref (X 2), .ref (X 3), .ref (X 4), .ref (X 5), .ref (X 6), .ref (X 7), .ref (X 8)])), (X 0, .inl (gI g, 12, .inl (V 0))), (X 1, .inl (gI g, 480, .inl (V 1))), (X 2, .inl (gI g, 24, .inl (V 2))), (X 3, .inl (gI g, 24, .inl (V 3))), (X 4, .inl (gI g, 24, .inl (V 4))), (X 5, .inl (gI g, 192, .inl (V 5))), (X 6, .inl (gI g, 24, .inl (V 6))), (X 7, .inl (gI g, 24, .inl (V 7))), (X 8, .inl (gI g, 24, .inl (V 8)))] := hD
  refine lv_aload_n hx hb dX3_signsOf_0 rfl (lv_at hl 0 rfl) ?_
  refine lv_iconst (v := 0) hx hb dX3_signsOf_1 (by decide +kernel) ?_
  refine va_put (D := gD g) (ci := 3) (v := .int (0)) (ty := .int) (C := RX3) (T := TX3) (N := 12) hx hb hts iX3 tyX3 tyX3_ok nmX3 hown hK.1 hP hD hS 0 rfl rfl 0 (by decide) f37 (fun _ h9 => h9) rfl (by decide +kernel) rfl rfl (Nat.le_of_ble_eq_true rfl) dX3_signsOf_2 (fun H locs hP hD hS => ?_)
  have hP : va_P (gD g) vwCl [(h, .inr (3, [.int (0), .int (nI lc), .ref (X 0), .ref (X 1), .int (nI ec), .ref (X 2), .ref (X 3), .ref (X 4), .ref (X 5), .ref (X 6), .ref (X 7), .ref (X 8)])), (X 0, .inl (gI g, 12, .inl (V 0))), (X 1, .inl (gI g, 480, .inl (V 1))), (X 2, .inl (gI g, 24, .inl (V 2))), (X 3, .inl (gI g, 24, .inl (V 3))), (X 4, .inl (gI g, 24, .inl (V 4))), (X 5, .inl (gI g, 192, .inl (V 5))), (X 6, .inl (gI g, 24, .inl (V 6))), (X 7, .inl (gI g, 24, .inl (V 7))), (X 8, .inl (gI g, 24, .inl (V 8)))] H := hP
  have hD : va_D A [(h, .inr (3, [.int (0), .int (nI lc), .ref (X 0), .ref (X 1), .int (nI ec), .ref (X 2), .ref (X 3), .ref (X 4), .ref (X 5), .ref (X 6), .ref (X 7), .ref (X 8)])), (X 0, .inl (gI g, 12, .inl (V 0))), (X 1, .inl (gI g, 480, .inl (V 1))), (X 2, .inl (gI g, 24, .inl (V 2))), (X 3, .inl (gI g, 24, .inl (V 3))), (X 4, .inl (gI g, 24, .inl (V 4))), (X 5, .inl (gI g, 192, .inl (V 5))), (X 6, .inl (gI g, 24, .inl (V 6))), (X 7, .inl (gI g, 24, .inl (V 7))), (X 8, .inl (gI g, 24, .inl (V 8)))] := hD
  refine lv_aload_n hx hb dX3_signsOf_5 rfl (lv_at hl 0 rfl) ?_
  refine lv_iload_n hx hb dX3_signsOf_6 rfl (lv_at hl 1 rfl) ?_
  refine p_V (As := [.int (x)]) (rest := []) S (c_X3_isLetter l g h X V 0 lc ec (x) hlc hec) (cwV 1 hts gX3_signsOf_X3_isLetter rfl rfl rfl (by decide +kernel) ⟨Nat.le_of_ble_eq_true rfl, Nat.le_of_ble_eq_true rfl⟩) hK (va_recv hK.1 hP (ci := 3) (q0 := 0) rfl rfl) (hP) rfl hl.1 rfl (Nat.le_of_ble_eq_true rfl) dX3_signsOf_7 ⟨Nat.le_of_ble_eq_true rfl, Nat.le_of_ble_eq_true rfl⟩ ?_
  refine br_eqB (tgt := 22) hx hb dX3_signsOf_10 (by decide) (fun c10 => ?_) (fun c10 => ?_)
  · refine lv_aload_n hx hb dX3_signsOf_22 rfl (lv_at hl 0 rfl) ?_
    refine lv_iconst (v := 1) hx hb dX3_signsOf_23 (by decide +kernel) ?_
    refine w_V (As := [.int (1)]) (rest := []) S (c_X3_no l g h X V 0 lc ec (1)) (cwV 1 hts gX3_signsOf_X3_no rfl rfl rfl (by decide +kernel) ⟨Nat.le_of_ble_eq_true rfl, Nat.le_of_ble_eq_true rfl⟩) hK (va_recv hK.1 hP (ci := 3) (q0 := 0) rfl rfl) hP (hD.weaken (fun _ _ _ _ => trivial)) hS (wA_D hD [0, 1, 2, 3, 4, 5, 6, 7, 8, 9] rfl) rfl hl.1 rfl (Nat.le_of_ble_eq_true rfl) dX3_signsOf_24 ⟨Nat.le_of_ble_eq_true rfl, Nat.le_of_ble_eq_true rfl⟩ (fun H locs hP1 hz1 hk1 hS => ?_)
    have hP : va_P (gD g) vwCl [(h, .inr (3, [.int (1), .int (nI lc), .ref (X 0), .ref (X 1), .int (nI ec), .ref (X 2), .ref (X 3), .ref (X 4), .ref (X 5), .ref (X 6), .ref (X 7), .ref (X 8)])), (X 0, .inl (gI g, 12, .inl (V 0))), (X 1, .inl (gI g, 480, .inl (V 1))), (X 2, .inl (gI g, 24, .inl (V 2))), (X 3, .inl (gI g, 24, .inl (V 3))), (X 4, .inl (gI g, 24, .inl (V 4))), (X 5, .inl (gI g, 192, .inl (V 5))), (X 6, .inl (gI g, 24, .inl (V 6))), (X 7, .inl (gI g, 24, .inl (V 7))), (X 8, .inl (gI g, 24, .inl (V 8)))] H := hP1
    have hD : va_D A [(h, .inr (3, [.int (1), .int (nI lc), .ref (X 0), .ref (X 1), .int (nI ec), .ref (X 2), .ref (X 3), .ref (X 4), .ref (X 5), .ref (X 6), .ref (X 7), .ref (X 8)])), (X 0, .inl (gI g, 12, .inl (V 0))), (X 1, .inl (gI g, 480, .inl (V 1))), (X 2, .inl (gI g, 24, .inl (V 2))), (X 3, .inl (gI g, 24, .inl (V 3))), (X 4, .inl (gI g, 24, .inl (V 4))), (X 5, .inl (gI g, 192, .inl (V 5))), (X 6, .inl (gI g, 24, .inl (V 6))), (X 7, .inl (gI g, 24, .inl (V 7))), (X 8, .inl (gI g, 24, .inl (V 8)))] := D_same hD rfl
    exact hret _ _ _ _ hP hS dX3_signsOf_27
  · exact absurd c10 (by rw [hxb]; decide)

set_option maxHeartbeats 4000000 in
set_option maxRecDepth 100000 in
/-- commasOf -/
theorem c_X3_commasOf (l : Launch) (g : gT) (h : Nat) (X : Nat → Nat) (V : Nat → Nat → Int32) (th : Int32) (lc ec : Nat) (NN : Nat → Nat) (hlc : lc ≤ 12) (hec : ec ≤ 24) (hNN : ∀ i, i < lc → V 0 i = nI (NN i) ∧ NN i ≤ 40) (k : Nat) (hk : k < lc) : wM g l yX3_commasOf wsX3_commasOf { frames := 2, cells := 0, slots := 0, locals := 46 } [.ref (h), .int (nI k)] (mdW g h X V th lc ec) (some (.int (cntF (rwV V k) 27 (NN k)))) (mdW g h X V 0 lc ec) := by
  refine wr_ofI (cc := cX3_commasOf) (maxL := 2) (by decide) rfl (Nat.le_of_ble_eq_true rfl) ?_
  intro p e s m args below meth c H0 ls A Q hx hb hml hts hown hK hP hD hS hl hret
  have hl : lv_has ls 2 [(0, .ref (h)), (1, .int (nI k))] := hl
  have S : CallFix p m c cX3_commasOf 2 s args wsX3_commasOf RX3 := ⟨hx, hb, hml, hown, hts⟩
  have hgk : inB (nI k) lc = true := inB_nI hk (by omega)
  have hVn := (hNN k hk).1
  have hn := (hNN k hk).2
  have iX3 : ∀ w ∈ u_ws RX3 TX3 12, w ∈ wsX3_commasOf := by decide +kernel
  have f37 := hts (.fieldLink RX3 37 "LetterSealsModel" "thrown" "I") (by decide +kernel)
  obtain ⟨H, eH⟩ : ∃ H : Heap, H = H0 := ⟨_, rfl⟩
  rw [← eH] at hP ⊢
  have hS : va_S A H0 H [] := by rw [eH]; exact hS
  have hP : va_P (gD g) vwCl [(h, .inr (3, [.int (th), .int (nI lc), .ref (X 0), .ref (X 1), .int (nI ec), .ref (X 2), .ref (X 3), .ref (X 4), .ref (X 5), .ref (X 6), .ref (X 7), .ref (X 8)])), (X 0, .inl (gI g, 12, .inl (V 0))), (X 1, .inl (gI g, 480, .inl (V 1))), (X 2, .inl (gI g, 24, .inl (V 2))), (X 3, .inl (gI g, 24, .inl (V 3))), (X 4, .inl (gI g, 24, .inl (V 4))), (X 5, .inl (gI g, 192, .inl (V 5))), (X 6, .inl (gI g, 24, .inl (V 6))), (X 7, .inl (gI g, 24, .inl (V 7))), (X 8, .inl (gI g, 24, .inl (V 8)))] H := hP
  have hD : va_D A [(h, .inr (3, [.int (th), .int (nI lc), .ref (X 0), .ref (X 1), .int (nI ec), .ref (X 2), .ref (X 3), .ref (X 4), .ref (X 5), .ref (X 6), .ref (X 7), .ref (X 8)])), (X 0, .inl (gI g, 12, .inl (V 0))), (X 1, .inl (gI g, 480, .inl (V 1))), (X 2, .inl (gI g, 24, .inl (V 2))), (X 3, .inl (gI g, 24, .inl (V 3))), (X 4, .inl (gI g, 24, .inl (V 4))), (X 5, .inl (gI g, 192, .inl (V 5))), (X 6, .inl (gI g, 24, .inl (V 6))), (X 7, .inl (gI g, 24, .inl (V 7))), (X 8, .inl (gI g, 24, .inl (V 8)))] := hD
  refine lv_aload_n hx hb dX3_commasOf_0 rfl (lv_at hl 0 rfl) ?_
  refine lv_iconst (v := 0) hx hb dX3_commasOf_1 (by decide +kernel) ?_
  refine va_put (D := gD g) (ci := 3) (v := .int (0)) (ty := .int) (C := RX3) (T := TX3) (N := 12) hx hb hts iX3 tyX3 tyX3_ok nmX3 hown hK.1 hP hD hS 0 rfl rfl 0 (by decide) f37 (fun _ h9 => h9) rfl (by decide +kernel) rfl rfl (Nat.le_of_ble_eq_true rfl) dX3_commasOf_2 (fun H locs hP hD hS => ?_)
  have hP : va_P (gD g) vwCl [(h, .inr (3, [.int (0), .int (nI lc), .ref (X 0), .ref (X 1), .int (nI ec), .ref (X 2), .ref (X 3), .ref (X 4), .ref (X 5), .ref (X 6), .ref (X 7), .ref (X 8)])), (X 0, .inl (gI g, 12, .inl (V 0))), (X 1, .inl (gI g, 480, .inl (V 1))), (X 2, .inl (gI g, 24, .inl (V 2))), (X 3, .inl (gI g, 24, .inl (V 3))), (X 4, .inl (gI g, 24, .inl (V 4))), (X 5, .inl (gI g, 192, .inl (V 5))), (X 6, .inl (gI g, 24, .inl (V 6))), (X 7, .inl (gI g, 24, .inl (V 7))), (X 8, .inl (gI g, 24, .inl (V 8)))] H := hP
  have hD : va_D A [(h, .inr (3, [.int (0), .int (nI lc), .ref (X 0), .ref (X 1), .int (nI ec), .ref (X 2), .ref (X 3), .ref (X 4), .ref (X 5), .ref (X 6), .ref (X 7), .ref (X 8)])), (X 0, .inl (gI g, 12, .inl (V 0))), (X 1, .inl (gI g, 480, .inl (V 1))), (X 2, .inl (gI g, 24, .inl (V 2))), (X 3, .inl (gI g, 24, .inl (V 3))), (X 4, .inl (gI g, 24, .inl (V 4))), (X 5, .inl (gI g, 192, .inl (V 5))), (X 6, .inl (gI g, 24, .inl (V 6))), (X 7, .inl (gI g, 24, .inl (V 7))), (X 8, .inl (gI g, 24, .inl (V 8)))] := hD
  refine lv_aload_n hx hb dX3_commasOf_5 rfl (lv_at hl 0 rfl) ?_
  refine lv_iload_n hx hb dX3_commasOf_6 rfl (lv_at hl 1 rfl) ?_
  refine p_V (As := [.int (nI k)]) (rest := []) S (c_X3_isLetter l g h X V 0 lc ec (nI k) hlc hec) (cwV 1 hts gX3_commasOf_X3_isLetter rfl rfl rfl (by decide +kernel) ⟨Nat.le_of_ble_eq_true rfl, Nat.le_of_ble_eq_true rfl⟩) hK (va_recv hK.1 hP (ci := 3) (q0 := 0) rfl rfl) (hP) rfl hl.1 rfl (Nat.le_of_ble_eq_true rfl) dX3_commasOf_7 ⟨Nat.le_of_ble_eq_true rfl, Nat.le_of_ble_eq_true rfl⟩ ?_
  refine br_eqB (tgt := 23) hx hb dX3_commasOf_10 (by decide) (fun c10 => ?_) (fun c10 => ?_)
  · exact absurd c10 (by rw [hgk]; decide)
  · refine lv_aload_n hx hb dX3_commasOf_13 rfl (lv_at hl 0 rfl) ?_
    refine lv_iload_n hx hb dX3_commasOf_14 rfl (lv_at hl 1 rfl) ?_
    refine lv_bipush (v := 27) hx hb dX3_commasOf_15 (by decide +kernel) ?_
    refine p_V (As := [.int (nI k), .int (27)]) (rest := []) S (c_X3_count l g h X V 0 lc ec NN hlc hec hNN k hk 27) (cwV 2 hts gX3_commasOf_X3_count rfl rfl rfl (by decide +kernel) ⟨Nat.le_of_ble_eq_true rfl, Nat.le_of_ble_eq_true rfl⟩) hK (va_recv hK.1 hP (ci := 3) (q0 := 0) rfl rfl) (hP) rfl hl.1 rfl (Nat.le_of_ble_eq_true rfl) dX3_commasOf_17 ⟨Nat.le_of_ble_eq_true rfl, Nat.le_of_ble_eq_true rfl⟩ ?_
    refine lv_goto (tgt := 28) hx hb dX3_commasOf_20 (by decide) ?_
    exact hret _ _ _ _ hP hS dX3_commasOf_28

set_option maxHeartbeats 4000000 in
set_option maxRecDepth 100000 in
/-- commasOf_1 -/
theorem c_X3_commasOf_1 (l : Launch) (g : gT) (h : Nat) (X : Nat → Nat) (V : Nat → Nat → Int32) (th : Int32) (lc ec : Nat) (hlc : lc ≤ 12) (hec : ec ≤ 24) (x : Int32) (hxb : inB x lc = false) : wM g l yX3_commasOf wsX3_commasOf { frames := 2, cells := 0, slots := 0, locals := 46 } [.ref (h), .int (x)] (mdW g h X V th lc ec) (some (.int (0))) (mdW g h X V 1 lc ec) := by
  refine wr_ofI (cc := cX3_commasOf) (maxL := 2) (by decide) rfl (Nat.le_of_ble_eq_true rfl) ?_
  intro p e s m args below meth c H0 ls A Q hx hb hml hts hown hK hP hD hS hl hret
  have hl : lv_has ls 2 [(0, .ref (h)), (1, .int (x))] := hl
  have S : CallFix p m c cX3_commasOf 2 s args wsX3_commasOf RX3 := ⟨hx, hb, hml, hown, hts⟩
  have iX3 : ∀ w ∈ u_ws RX3 TX3 12, w ∈ wsX3_commasOf := by decide +kernel
  have f37 := hts (.fieldLink RX3 37 "LetterSealsModel" "thrown" "I") (by decide +kernel)
  obtain ⟨H, eH⟩ : ∃ H : Heap, H = H0 := ⟨_, rfl⟩
  rw [← eH] at hP ⊢
  have hS : va_S A H0 H [] := by rw [eH]; exact hS
  have hP : va_P (gD g) vwCl [(h, .inr (3, [.int (th), .int (nI lc), .ref (X 0), .ref (X 1), .int (nI ec), .ref (X 2), .ref (X 3), .ref (X 4), .ref (X 5), .ref (X 6), .ref (X 7), .ref (X 8)])), (X 0, .inl (gI g, 12, .inl (V 0))), (X 1, .inl (gI g, 480, .inl (V 1))), (X 2, .inl (gI g, 24, .inl (V 2))), (X 3, .inl (gI g, 24, .inl (V 3))), (X 4, .inl (gI g, 24, .inl (V 4))), (X 5, .inl (gI g, 192, .inl (V 5))), (X 6, .inl (gI g, 24, .inl (V 6))), (X 7, .inl (gI g, 24, .inl (V 7))), (X 8, .inl (gI g, 24, .inl (V 8)))] H := hP
  have hD : va_D A [(h, .inr (3, [.int (th), .int (nI lc), .ref (X 0), .ref (X 1), .int (nI ec), .ref (X 2), .ref (X 3), .ref (X 4), .ref (X 5), .ref (X 6), .ref (X 7), .ref (X 8)])), (X 0, .inl (gI g, 12, .inl (V 0))), (X 1, .inl (gI g, 480, .inl (V 1))), (X 2, .inl (gI g, 24, .inl (V 2))), (X 3, .inl (gI g, 24, .inl (V 3))), (X 4, .inl (gI g, 24, .inl (V 4))), (X 5, .inl (gI g, 192, .inl (V 5))), (X 6, .inl (gI g, 24, .inl (V 6))), (X 7, .inl (gI g, 24, .inl (V 7))), (X 8, .inl (gI g, 24, .inl (V 8)))] := hD
  refine lv_aload_n hx hb dX3_commasOf_0 rfl (lv_at hl 0 rfl) ?_
  refine lv_iconst (v := 0) hx hb dX3_commasOf_1 (by decide +kernel) ?_
  refine va_put (D := gD g) (ci := 3) (v := .int (0)) (ty := .int) (C := RX3) (T := TX3) (N := 12) hx hb hts iX3 tyX3 tyX3_ok nmX3 hown hK.1 hP hD hS 0 rfl rfl 0 (by decide) f37 (fun _ h9 => h9) rfl (by decide +kernel) rfl rfl (Nat.le_of_ble_eq_true rfl) dX3_commasOf_2 (fun H locs hP hD hS => ?_)
  have hP : va_P (gD g) vwCl [(h, .inr (3, [.int (0), .int (nI lc), .ref (X 0), .ref (X 1), .int (nI ec), .ref (X 2), .ref (X 3), .ref (X 4), .ref (X 5), .ref (X 6), .ref (X 7), .ref (X 8)])), (X 0, .inl (gI g, 12, .inl (V 0))), (X 1, .inl (gI g, 480, .inl (V 1))), (X 2, .inl (gI g, 24, .inl (V 2))), (X 3, .inl (gI g, 24, .inl (V 3))), (X 4, .inl (gI g, 24, .inl (V 4))), (X 5, .inl (gI g, 192, .inl (V 5))), (X 6, .inl (gI g, 24, .inl (V 6))), (X 7, .inl (gI g, 24, .inl (V 7))), (X 8, .inl (gI g, 24, .inl (V 8)))] H := hP
  have hD : va_D A [(h, .inr (3, [.int (0), .int (nI lc), .ref (X 0), .ref (X 1), .int (nI ec), .ref (X 2), .ref (X 3), .ref (X 4), .ref (X 5), .ref (X 6), .ref (X 7), .ref (X 8)])), (X 0, .inl (gI g, 12, .inl (V 0))), (X 1, .inl (gI g, 480, .inl (V 1))), (X 2, .inl (gI g, 24, .inl (V 2))), (X 3, .inl (gI g, 24, .inl (V 3))), (X 4, .inl (gI g, 24, .inl (V 4))), (X 5, .inl (gI g, 192, .inl (V 5))), (X 6, .inl (gI g, 24, .inl (V 6))), (X 7, .inl (gI g, 24, .inl (V 7))), (X 8, .inl (gI g, 24, .inl (V 8)))] := hD
  refine lv_aload_n hx hb dX3_commasOf_5 rfl (lv_at hl 0 rfl) ?_
  refine lv_iload_n hx hb dX3_commasOf_6 rfl (lv_at hl 1 rfl) ?_
  refine p_V (As := [.int (x)]) (rest := []) S (c_X3_isLetter l g h X V 0 lc ec (x) hlc hec) (cwV 1 hts gX3_commasOf_X3_isLetter rfl rfl rfl (by decide +kernel) ⟨Nat.le_of_ble_eq_true rfl, Nat.le_of_ble_eq_true rfl⟩) hK (va_recv hK.1 hP (ci := 3) (q0 := 0) rfl rfl) (hP) rfl hl.1 rfl (Nat.le_of_ble_eq_true rfl) dX3_commasOf_7 ⟨Nat.le_of_ble_eq_true rfl, Nat.le_of_ble_eq_true rfl⟩ ?_
  refine br_eqB (tgt := 23) hx hb dX3_commasOf_10 (by decide) (fun c10 => ?_) (fun c10 => ?_)
  · refine lv_aload_n hx hb dX3_commasOf_23 rfl (lv_at hl 0 rfl) ?_
    refine lv_iconst (v := 1) hx hb dX3_commasOf_24 (by decide +kernel) ?_
    refine w_V (As := [.int (1)]) (rest := []) S (c_X3_no l g h X V 0 lc ec (1)) (cwV 1 hts gX3_commasOf_X3_no rfl rfl rfl (by decide +kernel) ⟨Nat.le_of_ble_eq_true rfl, Nat.le_of_ble_eq_true rfl⟩) hK (va_recv hK.1 hP (ci := 3) (q0 := 0) rfl rfl) hP (hD.weaken (fun _ _ _ _ => trivial)) hS (wA_D hD [0, 1, 2, 3, 4, 5, 6, 7, 8, 9] rfl) rfl hl.1 rfl (Nat.le_of_ble_eq_true rfl) dX3_commasOf_25 ⟨Nat.le_of_ble_eq_true rfl, Nat.le_of_ble_eq_true rfl⟩ (fun H locs hP1 hz1 hk1 hS => ?_)
    have hP : va_P (gD g) vwCl [(h, .inr (3, [.int (1), .int (nI lc), .ref (X 0), .ref (X 1), .int (nI ec), .ref (X 2), .ref (X 3), .ref (X 4), .ref (X 5), .ref (X 6), .ref (X 7), .ref (X 8)])), (X 0, .inl (gI g, 12, .inl (V 0))), (X 1, .inl (gI g, 480, .inl (V 1))), (X 2, .inl (gI g, 24, .inl (V 2))), (X 3, .inl (gI g, 24, .inl (V 3))), (X 4, .inl (gI g, 24, .inl (V 4))), (X 5, .inl (gI g, 192, .inl (V 5))), (X 6, .inl (gI g, 24, .inl (V 6))), (X 7, .inl (gI g, 24, .inl (V 7))), (X 8, .inl (gI g, 24, .inl (V 8)))] H := hP1
    have hD : va_D A [(h, .inr (3, [.int (1), .int (nI lc), .ref (X 0), .ref (X 1), .int (nI ec), .ref (X 2), .ref (X 3), .ref (X 4), .ref (X 5), .ref (X 6), .ref (X 7), .ref (X 8)])), (X 0, .inl (gI g, 12, .inl (V 0))), (X 1, .inl (gI g, 480, .inl (V 1))), (X 2, .inl (gI g, 24, .inl (V 2))), (X 3, .inl (gI g, 24, .inl (V 3))), (X 4, .inl (gI g, 24, .inl (V 4))), (X 5, .inl (gI g, 192, .inl (V 5))), (X 6, .inl (gI g, 24, .inl (V 6))), (X 7, .inl (gI g, 24, .inl (V 7))), (X 8, .inl (gI g, 24, .inl (V 8)))] := D_same hD rfl
    exact hret _ _ _ _ hP hS dX3_commasOf_28
  · exact absurd c10 (by rw [hxb]; decide)

set_option maxHeartbeats 4000000 in
set_option maxRecDepth 100000 in
/-- tearsOf -/
theorem c_X3_tearsOf (l : Launch) (g : gT) (h : Nat) (X : Nat → Nat) (V : Nat → Nat → Int32) (th : Int32) (lc ec : Nat) (NN : Nat → Nat) (hlc : lc ≤ 12) (hec : ec ≤ 24) (hNN : ∀ i, i < lc → V 0 i = nI (NN i) ∧ NN i ≤ 40) (k : Nat) (hk : k < lc) : wM g l yX3_tearsOf wsX3_tearsOf { frames := 2, cells := 0, slots := 0, locals := 46 } [.ref (h), .int (nI k)] (mdW g h X V th lc ec) (some (.int (cntF (rwV V k) 30 (NN k)))) (mdW g h X V 0 lc ec) := by
  refine wr_ofI (cc := cX3_tearsOf) (maxL := 2) (by decide) rfl (Nat.le_of_ble_eq_true rfl) ?_
  intro p e s m args below meth c H0 ls A Q hx hb hml hts hown hK hP hD hS hl hret
  have hl : lv_has ls 2 [(0, .ref (h)), (1, .int (nI k))] := hl
  have S : CallFix p m c cX3_tearsOf 2 s args wsX3_tearsOf RX3 := ⟨hx, hb, hml, hown, hts⟩
  have hgk : inB (nI k) lc = true := inB_nI hk (by omega)
  have hVn := (hNN k hk).1
  have hn := (hNN k hk).2
  have iX3 : ∀ w ∈ u_ws RX3 TX3 12, w ∈ wsX3_tearsOf := by decide +kernel
  have f37 := hts (.fieldLink RX3 37 "LetterSealsModel" "thrown" "I") (by decide +kernel)
  obtain ⟨H, eH⟩ : ∃ H : Heap, H = H0 := ⟨_, rfl⟩
  rw [← eH] at hP ⊢
  have hS : va_S A H0 H [] := by rw [eH]; exact hS
  have hP : va_P (gD g) vwCl [(h, .inr (3, [.int (th), .int (nI lc), .ref (X 0), .ref (X 1), .int (nI ec), .ref (X 2), .ref (X 3), .ref (X 4), .ref (X 5), .ref (X 6), .ref (X 7), .ref (X 8)])), (X 0, .inl (gI g, 12, .inl (V 0))), (X 1, .inl (gI g, 480, .inl (V 1))), (X 2, .inl (gI g, 24, .inl (V 2))), (X 3, .inl (gI g, 24, .inl (V 3))), (X 4, .inl (gI g, 24, .inl (V 4))), (X 5, .inl (gI g, 192, .inl (V 5))), (X 6, .inl (gI g, 24, .inl (V 6))), (X 7, .inl (gI g, 24, .inl (V 7))), (X 8, .inl (gI g, 24, .inl (V 8)))] H := hP
  have hD : va_D A [(h, .inr (3, [.int (th), .int (nI lc), .ref (X 0), .ref (X 1), .int (nI ec), .ref (X 2), .ref (X 3), .ref (X 4), .ref (X 5), .ref (X 6), .ref (X 7), .ref (X 8)])), (X 0, .inl (gI g, 12, .inl (V 0))), (X 1, .inl (gI g, 480, .inl (V 1))), (X 2, .inl (gI g, 24, .inl (V 2))), (X 3, .inl (gI g, 24, .inl (V 3))), (X 4, .inl (gI g, 24, .inl (V 4))), (X 5, .inl (gI g, 192, .inl (V 5))), (X 6, .inl (gI g, 24, .inl (V 6))), (X 7, .inl (gI g, 24, .inl (V 7))), (X 8, .inl (gI g, 24, .inl (V 8)))] := hD
  refine lv_aload_n hx hb dX3_tearsOf_0 rfl (lv_at hl 0 rfl) ?_
  refine lv_iconst (v := 0) hx hb dX3_tearsOf_1 (by decide +kernel) ?_
  refine va_put (D := gD g) (ci := 3) (v := .int (0)) (ty := .int) (C := RX3) (T := TX3) (N := 12) hx hb hts iX3 tyX3 tyX3_ok nmX3 hown hK.1 hP hD hS 0 rfl rfl 0 (by decide) f37 (fun _ h9 => h9) rfl (by decide +kernel) rfl rfl (Nat.le_of_ble_eq_true rfl) dX3_tearsOf_2 (fun H locs hP hD hS => ?_)
  have hP : va_P (gD g) vwCl [(h, .inr (3, [.int (0), .int (nI lc), .ref (X 0), .ref (X 1), .int (nI ec), .ref (X 2), .ref (X 3), .ref (X 4), .ref (X 5), .ref (X 6), .ref (X 7), .ref (X 8)])), (X 0, .inl (gI g, 12, .inl (V 0))), (X 1, .inl (gI g, 480, .inl (V 1))), (X 2, .inl (gI g, 24, .inl (V 2))), (X 3, .inl (gI g, 24, .inl (V 3))), (X 4, .inl (gI g, 24, .inl (V 4))), (X 5, .inl (gI g, 192, .inl (V 5))), (X 6, .inl (gI g, 24, .inl (V 6))), (X 7, .inl (gI g, 24, .inl (V 7))), (X 8, .inl (gI g, 24, .inl (V 8)))] H := hP
  have hD : va_D A [(h, .inr (3, [.int (0), .int (nI lc), .ref (X 0), .ref (X 1), .int (nI ec), .ref (X 2), .ref (X 3), .ref (X 4), .ref (X 5), .ref (X 6), .ref (X 7), .ref (X 8)])), (X 0, .inl (gI g, 12, .inl (V 0))), (X 1, .inl (gI g, 480, .inl (V 1))), (X 2, .inl (gI g, 24, .inl (V 2))), (X 3, .inl (gI g, 24, .inl (V 3))), (X 4, .inl (gI g, 24, .inl (V 4))), (X 5, .inl (gI g, 192, .inl (V 5))), (X 6, .inl (gI g, 24, .inl (V 6))), (X 7, .inl (gI g, 24, .inl (V 7))), (X 8, .inl (gI g, 24, .inl (V 8)))] := hD
  refine lv_aload_n hx hb dX3_tearsOf_5 rfl (lv_at hl 0 rfl) ?_
  refine lv_iload_n hx hb dX3_tearsOf_6 rfl (lv_at hl 1 rfl) ?_
  refine p_V (As := [.int (nI k)]) (rest := []) S (c_X3_isLetter l g h X V 0 lc ec (nI k) hlc hec) (cwV 1 hts gX3_tearsOf_X3_isLetter rfl rfl rfl (by decide +kernel) ⟨Nat.le_of_ble_eq_true rfl, Nat.le_of_ble_eq_true rfl⟩) hK (va_recv hK.1 hP (ci := 3) (q0 := 0) rfl rfl) (hP) rfl hl.1 rfl (Nat.le_of_ble_eq_true rfl) dX3_tearsOf_7 ⟨Nat.le_of_ble_eq_true rfl, Nat.le_of_ble_eq_true rfl⟩ ?_
  refine br_eqB (tgt := 23) hx hb dX3_tearsOf_10 (by decide) (fun c10 => ?_) (fun c10 => ?_)
  · exact absurd c10 (by rw [hgk]; decide)
  · refine lv_aload_n hx hb dX3_tearsOf_13 rfl (lv_at hl 0 rfl) ?_
    refine lv_iload_n hx hb dX3_tearsOf_14 rfl (lv_at hl 1 rfl) ?_
    refine lv_bipush (v := 30) hx hb dX3_tearsOf_15 (by decide +kernel) ?_
    refine p_V (As := [.int (nI k), .int (30)]) (rest := []) S (c_X3_count l g h X V 0 lc ec NN hlc hec hNN k hk 30) (cwV 2 hts gX3_tearsOf_X3_count rfl rfl rfl (by decide +kernel) ⟨Nat.le_of_ble_eq_true rfl, Nat.le_of_ble_eq_true rfl⟩) hK (va_recv hK.1 hP (ci := 3) (q0 := 0) rfl rfl) (hP) rfl hl.1 rfl (Nat.le_of_ble_eq_true rfl) dX3_tearsOf_17 ⟨Nat.le_of_ble_eq_true rfl, Nat.le_of_ble_eq_true rfl⟩ ?_
    refine lv_goto (tgt := 28) hx hb dX3_tearsOf_20 (by decide) ?_
    exact hret _ _ _ _ hP hS dX3_tearsOf_28

set_option maxHeartbeats 4000000 in
set_option maxRecDepth 100000 in
/-- tearsOf_1 -/
theorem c_X3_tearsOf_1 (l : Launch) (g : gT) (h : Nat) (X : Nat → Nat) (V : Nat → Nat → Int32) (th : Int32) (lc ec : Nat) (hlc : lc ≤ 12) (hec : ec ≤ 24) (x : Int32) (hxb : inB x lc = false) : wM g l yX3_tearsOf wsX3_tearsOf { frames := 2, cells := 0, slots := 0, locals := 46 } [.ref (h), .int (x)] (mdW g h X V th lc ec) (some (.int (0))) (mdW g h X V 1 lc ec) := by
  refine wr_ofI (cc := cX3_tearsOf) (maxL := 2) (by decide) rfl (Nat.le_of_ble_eq_true rfl) ?_
  intro p e s m args below meth c H0 ls A Q hx hb hml hts hown hK hP hD hS hl hret
  have hl : lv_has ls 2 [(0, .ref (h)), (1, .int (x))] := hl
  have S : CallFix p m c cX3_tearsOf 2 s args wsX3_tearsOf RX3 := ⟨hx, hb, hml, hown, hts⟩
  have iX3 : ∀ w ∈ u_ws RX3 TX3 12, w ∈ wsX3_tearsOf := by decide +kernel
  have f37 := hts (.fieldLink RX3 37 "LetterSealsModel" "thrown" "I") (by decide +kernel)
  obtain ⟨H, eH⟩ : ∃ H : Heap, H = H0 := ⟨_, rfl⟩
  rw [← eH] at hP ⊢
  have hS : va_S A H0 H [] := by rw [eH]; exact hS
  have hP : va_P (gD g) vwCl [(h, .inr (3, [.int (th), .int (nI lc), .ref (X 0), .ref (X 1), .int (nI ec), .ref (X 2), .ref (X 3), .ref (X 4), .ref (X 5), .ref (X 6), .ref (X 7), .ref (X 8)])), (X 0, .inl (gI g, 12, .inl (V 0))), (X 1, .inl (gI g, 480, .inl (V 1))), (X 2, .inl (gI g, 24, .inl (V 2))), (X 3, .inl (gI g, 24, .inl (V 3))), (X 4, .inl (gI g, 24, .inl (V 4))), (X 5, .inl (gI g, 192, .inl (V 5))), (X 6, .inl (gI g, 24, .inl (V 6))), (X 7, .inl (gI g, 24, .inl (V 7))), (X 8, .inl (gI g, 24, .inl (V 8)))] H := hP
  have hD : va_D A [(h, .inr (3, [.int (th), .int (nI lc), .ref (X 0), .ref (X 1), .int (nI ec), .ref (X 2), .ref (X 3), .ref (X 4), .ref (X 5), .ref (X 6), .ref (X 7), .ref (X 8)])), (X 0, .inl (gI g, 12, .inl (V 0))), (X 1, .inl (gI g, 480, .inl (V 1))), (X 2, .inl (gI g, 24, .inl (V 2))), (X 3, .inl (gI g, 24, .inl (V 3))), (X 4, .inl (gI g, 24, .inl (V 4))), (X 5, .inl (gI g, 192, .inl (V 5))), (X 6, .inl (gI g, 24, .inl (V 6))), (X 7, .inl (gI g, 24, .inl (V 7))), (X 8, .inl (gI g, 24, .inl (V 8)))] := hD
  refine lv_aload_n hx hb dX3_tearsOf_0 rfl (lv_at hl 0 rfl) ?_
  refine lv_iconst (v := 0) hx hb dX3_tearsOf_1 (by decide +kernel) ?_
  refine va_put (D := gD g) (ci := 3) (v := .int (0)) (ty := .int) (C := RX3) (T := TX3) (N := 12) hx hb hts iX3 tyX3 tyX3_ok nmX3 hown hK.1 hP hD hS 0 rfl rfl 0 (by decide) f37 (fun _ h9 => h9) rfl (by decide +kernel) rfl rfl (Nat.le_of_ble_eq_true rfl) dX3_tearsOf_2 (fun H locs hP hD hS => ?_)
  have hP : va_P (gD g) vwCl [(h, .inr (3, [.int (0), .int (nI lc), .ref (X 0), .ref (X 1), .int (nI ec), .ref (X 2), .ref (X 3), .ref (X 4), .ref (X 5), .ref (X 6), .ref (X 7), .ref (X 8)])), (X 0, .inl (gI g, 12, .inl (V 0))), (X 1, .inl (gI g, 480, .inl (V 1))), (X 2, .inl (gI g, 24, .inl (V 2))), (X 3, .inl (gI g, 24, .inl (V 3))), (X 4, .inl (gI g, 24, .inl (V 4))), (X 5, .inl (gI g, 192, .inl (V 5))), (X 6, .inl (gI g, 24, .inl (V 6))), (X 7, .inl (gI g, 24, .inl (V 7))), (X 8, .inl (gI g, 24, .inl (V 8)))] H := hP
  have hD : va_D A [(h, .inr (3, [.int (0), .int (nI lc), .ref (X 0), .ref (X 1), .int (nI ec), .ref (X 2), .ref (X 3), .ref (X 4), .ref (X 5), .ref (X 6), .ref (X 7), .ref (X 8)])), (X 0, .inl (gI g, 12, .inl (V 0))), (X 1, .inl (gI g, 480, .inl (V 1))), (X 2, .inl (gI g, 24, .inl (V 2))), (X 3, .inl (gI g, 24, .inl (V 3))), (X 4, .inl (gI g, 24, .inl (V 4))), (X 5, .inl (gI g, 192, .inl (V 5))), (X 6, .inl (gI g, 24, .inl (V 6))), (X 7, .inl (gI g, 24, .inl (V 7))), (X 8, .inl (gI g, 24, .inl (V 8)))] := hD
  refine lv_aload_n hx hb dX3_tearsOf_5 rfl (lv_at hl 0 rfl) ?_
  refine lv_iload_n hx hb dX3_tearsOf_6 rfl (lv_at hl 1 rfl) ?_
  refine p_V (As := [.int (x)]) (rest := []) S (c_X3_isLetter l g h X V 0 lc ec (x) hlc hec) (cwV 1 hts gX3_tearsOf_X3_isLetter rfl rfl rfl (by decide +kernel) ⟨Nat.le_of_ble_eq_true rfl, Nat.le_of_ble_eq_true rfl⟩) hK (va_recv hK.1 hP (ci := 3) (q0 := 0) rfl rfl) (hP) rfl hl.1 rfl (Nat.le_of_ble_eq_true rfl) dX3_tearsOf_7 ⟨Nat.le_of_ble_eq_true rfl, Nat.le_of_ble_eq_true rfl⟩ ?_
  refine br_eqB (tgt := 23) hx hb dX3_tearsOf_10 (by decide) (fun c10 => ?_) (fun c10 => ?_)
  · refine lv_aload_n hx hb dX3_tearsOf_23 rfl (lv_at hl 0 rfl) ?_
    refine lv_iconst (v := 1) hx hb dX3_tearsOf_24 (by decide +kernel) ?_
    refine w_V (As := [.int (1)]) (rest := []) S (c_X3_no l g h X V 0 lc ec (1)) (cwV 1 hts gX3_tearsOf_X3_no rfl rfl rfl (by decide +kernel) ⟨Nat.le_of_ble_eq_true rfl, Nat.le_of_ble_eq_true rfl⟩) hK (va_recv hK.1 hP (ci := 3) (q0 := 0) rfl rfl) hP (hD.weaken (fun _ _ _ _ => trivial)) hS (wA_D hD [0, 1, 2, 3, 4, 5, 6, 7, 8, 9] rfl) rfl hl.1 rfl (Nat.le_of_ble_eq_true rfl) dX3_tearsOf_25 ⟨Nat.le_of_ble_eq_true rfl, Nat.le_of_ble_eq_true rfl⟩ (fun H locs hP1 hz1 hk1 hS => ?_)
    have hP : va_P (gD g) vwCl [(h, .inr (3, [.int (1), .int (nI lc), .ref (X 0), .ref (X 1), .int (nI ec), .ref (X 2), .ref (X 3), .ref (X 4), .ref (X 5), .ref (X 6), .ref (X 7), .ref (X 8)])), (X 0, .inl (gI g, 12, .inl (V 0))), (X 1, .inl (gI g, 480, .inl (V 1))), (X 2, .inl (gI g, 24, .inl (V 2))), (X 3, .inl (gI g, 24, .inl (V 3))), (X 4, .inl (gI g, 24, .inl (V 4))), (X 5, .inl (gI g, 192, .inl (V 5))), (X 6, .inl (gI g, 24, .inl (V 6))), (X 7, .inl (gI g, 24, .inl (V 7))), (X 8, .inl (gI g, 24, .inl (V 8)))] H := hP1
    have hD : va_D A [(h, .inr (3, [.int (1), .int (nI lc), .ref (X 0), .ref (X 1), .int (nI ec), .ref (X 2), .ref (X 3), .ref (X 4), .ref (X 5), .ref (X 6), .ref (X 7), .ref (X 8)])), (X 0, .inl (gI g, 12, .inl (V 0))), (X 1, .inl (gI g, 480, .inl (V 1))), (X 2, .inl (gI g, 24, .inl (V 2))), (X 3, .inl (gI g, 24, .inl (V 3))), (X 4, .inl (gI g, 24, .inl (V 4))), (X 5, .inl (gI g, 192, .inl (V 5))), (X 6, .inl (gI g, 24, .inl (V 6))), (X 7, .inl (gI g, 24, .inl (V 7))), (X 8, .inl (gI g, 24, .inl (V 8)))] := D_same hD rfl
    exact hret _ _ _ _ hP hS dX3_tearsOf_28
  · exact absurd c10 (by rw [hxb]; decide)

set_option maxHeartbeats 4000000 in
set_option maxRecDepth 100000 in
/-- digestOf -/
theorem c_X3_digestOf (l : Launch) (g : gT) (h : Nat) (X : Nat → Nat) (V : Nat → Nat → Int32) (th : Int32) (lc ec : Nat) (NN : Nat → Nat) (hlc : lc ≤ 12) (hec : ec ≤ 24) (hNN : ∀ i, i < lc → V 0 i = nI (NN i) ∧ NN i ≤ 40) (k : Nat) (hk : k < lc) : wM g l yX3_digestOf wsX3_digestOf { frames := 3, cells := 0, slots := 0, locals := 68 } [.ref (h), .int (nI k)] (mdW g h X V th lc ec) (some (.int (dgF (rwV V k) (NN k)))) (mdW g h X V 0 lc ec) := by
  refine wr_ofI (cc := cX3_digestOf) (maxL := 2) (by decide) rfl (Nat.le_of_ble_eq_true rfl) ?_
  intro p e s m args below meth c H0 ls A Q hx hb hml hts hown hK hP hD hS hl hret
  have hl : lv_has ls 2 [(0, .ref (h)), (1, .int (nI k))] := hl
  have S : CallFix p m c cX3_digestOf 2 s args wsX3_digestOf RX3 := ⟨hx, hb, hml, hown, hts⟩
  have hgk : inB (nI k) lc = true := inB_nI hk (by omega)
  have hVn := (hNN k hk).1
  have hn := (hNN k hk).2
  have iX3 : ∀ w ∈ u_ws RX3 TX3 12, w ∈ wsX3_digestOf := by decide +kernel
  have f37 := hts (.fieldLink RX3 37 "LetterSealsModel" "thrown" "I") (by decide +kernel)
  obtain ⟨H, eH⟩ : ∃ H : Heap, H = H0 := ⟨_, rfl⟩
  rw [← eH] at hP ⊢
  have hS : va_S A H0 H [] := by rw [eH]; exact hS
  have hP : va_P (gD g) vwCl [(h, .inr (3, [.int (th), .int (nI lc), .ref (X 0), .ref (X 1), .int (nI ec), .ref (X 2), .ref (X 3), .ref (X 4), .ref (X 5), .ref (X 6), .ref (X 7), .ref (X 8)])), (X 0, .inl (gI g, 12, .inl (V 0))), (X 1, .inl (gI g, 480, .inl (V 1))), (X 2, .inl (gI g, 24, .inl (V 2))), (X 3, .inl (gI g, 24, .inl (V 3))), (X 4, .inl (gI g, 24, .inl (V 4))), (X 5, .inl (gI g, 192, .inl (V 5))), (X 6, .inl (gI g, 24, .inl (V 6))), (X 7, .inl (gI g, 24, .inl (V 7))), (X 8, .inl (gI g, 24, .inl (V 8)))] H := hP
  have hD : va_D A [(h, .inr (3, [.int (th), .int (nI lc), .ref (X 0), .ref (X 1), .int (nI ec), .ref (X 2), .ref (X 3), .ref (X 4), .ref (X 5), .ref (X 6), .ref (X 7), .ref (X 8)])), (X 0, .inl (gI g, 12, .inl (V 0))), (X 1, .inl (gI g, 480, .inl (V 1))), (X 2, .inl (gI g, 24, .inl (V 2))), (X 3, .inl (gI g, 24, .inl (V 3))), (X 4, .inl (gI g, 24, .inl (V 4))), (X 5, .inl (gI g, 192, .inl (V 5))), (X 6, .inl (gI g, 24, .inl (V 6))), (X 7, .inl (gI g, 24, .inl (V 7))), (X 8, .inl (gI g, 24, .inl (V 8)))] := hD
  refine lv_aload_n hx hb dX3_digestOf_0 rfl (lv_at hl 0 rfl) ?_
  refine lv_iconst (v := 0) hx hb dX3_digestOf_1 (by decide +kernel) ?_
  refine va_put (D := gD g) (ci := 3) (v := .int (0)) (ty := .int) (C := RX3) (T := TX3) (N := 12) hx hb hts iX3 tyX3 tyX3_ok nmX3 hown hK.1 hP hD hS 0 rfl rfl 0 (by decide) f37 (fun _ h9 => h9) rfl (by decide +kernel) rfl rfl (Nat.le_of_ble_eq_true rfl) dX3_digestOf_2 (fun H locs hP hD hS => ?_)
  have hP : va_P (gD g) vwCl [(h, .inr (3, [.int (0), .int (nI lc), .ref (X 0), .ref (X 1), .int (nI ec), .ref (X 2), .ref (X 3), .ref (X 4), .ref (X 5), .ref (X 6), .ref (X 7), .ref (X 8)])), (X 0, .inl (gI g, 12, .inl (V 0))), (X 1, .inl (gI g, 480, .inl (V 1))), (X 2, .inl (gI g, 24, .inl (V 2))), (X 3, .inl (gI g, 24, .inl (V 3))), (X 4, .inl (gI g, 24, .inl (V 4))), (X 5, .inl (gI g, 192, .inl (V 5))), (X 6, .inl (gI g, 24, .inl (V 6))), (X 7, .inl (gI g, 24, .inl (V 7))), (X 8, .inl (gI g, 24, .inl (V 8)))] H := hP
  have hD : va_D A [(h, .inr (3, [.int (0), .int (nI lc), .ref (X 0), .ref (X 1), .int (nI ec), .ref (X 2), .ref (X 3), .ref (X 4), .ref (X 5), .ref (X 6), .ref (X 7), .ref (X 8)])), (X 0, .inl (gI g, 12, .inl (V 0))), (X 1, .inl (gI g, 480, .inl (V 1))), (X 2, .inl (gI g, 24, .inl (V 2))), (X 3, .inl (gI g, 24, .inl (V 3))), (X 4, .inl (gI g, 24, .inl (V 4))), (X 5, .inl (gI g, 192, .inl (V 5))), (X 6, .inl (gI g, 24, .inl (V 6))), (X 7, .inl (gI g, 24, .inl (V 7))), (X 8, .inl (gI g, 24, .inl (V 8)))] := hD
  refine lv_aload_n hx hb dX3_digestOf_5 rfl (lv_at hl 0 rfl) ?_
  refine lv_iload_n hx hb dX3_digestOf_6 rfl (lv_at hl 1 rfl) ?_
  refine p_V (As := [.int (nI k)]) (rest := []) S (c_X3_isLetter l g h X V 0 lc ec (nI k) hlc hec) (cwV 1 hts gX3_digestOf_X3_isLetter rfl rfl rfl (by decide +kernel) ⟨Nat.le_of_ble_eq_true rfl, Nat.le_of_ble_eq_true rfl⟩) hK (va_recv hK.1 hP (ci := 3) (q0 := 0) rfl rfl) (hP) rfl hl.1 rfl (Nat.le_of_ble_eq_true rfl) dX3_digestOf_7 ⟨Nat.le_of_ble_eq_true rfl, Nat.le_of_ble_eq_true rfl⟩ ?_
  refine br_eqB (tgt := 21) hx hb dX3_digestOf_10 (by decide) (fun c10 => ?_) (fun c10 => ?_)
  · exact absurd c10 (by rw [hgk]; decide)
  · refine lv_aload_n hx hb dX3_digestOf_13 rfl (lv_at hl 0 rfl) ?_
    refine lv_iload_n hx hb dX3_digestOf_14 rfl (lv_at hl 1 rfl) ?_
    refine p_V (As := [.int (nI k)]) (rest := []) S (c_X3_digestNow l g h X V 0 lc ec NN hlc hec hNN k hk) (cwV 1 hts gX3_digestOf_X3_digestNow rfl rfl rfl (by decide +kernel) ⟨Nat.le_of_ble_eq_true rfl, Nat.le_of_ble_eq_true rfl⟩) hK (va_recv hK.1 hP (ci := 3) (q0 := 0) rfl rfl) (hP) rfl hl.1 rfl (Nat.le_of_ble_eq_true rfl) dX3_digestOf_15 ⟨Nat.le_of_ble_eq_true rfl, Nat.le_of_ble_eq_true rfl⟩ ?_
    refine lv_goto (tgt := 26) hx hb dX3_digestOf_18 (by decide) ?_
    exact hret _ _ _ _ hP hS dX3_digestOf_26

set_option maxHeartbeats 4000000 in
set_option maxRecDepth 100000 in
/-- digestOf_1 -/
theorem c_X3_digestOf_1 (l : Launch) (g : gT) (h : Nat) (X : Nat → Nat) (V : Nat → Nat → Int32) (th : Int32) (lc ec : Nat) (hlc : lc ≤ 12) (hec : ec ≤ 24) (x : Int32) (hxb : inB x lc = false) : wM g l yX3_digestOf wsX3_digestOf { frames := 3, cells := 0, slots := 0, locals := 68 } [.ref (h), .int (x)] (mdW g h X V th lc ec) (some (.int (0))) (mdW g h X V 1 lc ec) := by
  refine wr_ofI (cc := cX3_digestOf) (maxL := 2) (by decide) rfl (Nat.le_of_ble_eq_true rfl) ?_
  intro p e s m args below meth c H0 ls A Q hx hb hml hts hown hK hP hD hS hl hret
  have hl : lv_has ls 2 [(0, .ref (h)), (1, .int (x))] := hl
  have S : CallFix p m c cX3_digestOf 2 s args wsX3_digestOf RX3 := ⟨hx, hb, hml, hown, hts⟩
  have iX3 : ∀ w ∈ u_ws RX3 TX3 12, w ∈ wsX3_digestOf := by decide +kernel
  have f37 := hts (.fieldLink RX3 37 "LetterSealsModel" "thrown" "I") (by decide +kernel)
  obtain ⟨H, eH⟩ : ∃ H : Heap, H = H0 := ⟨_, rfl⟩
  rw [← eH] at hP ⊢
  have hS : va_S A H0 H [] := by rw [eH]; exact hS
  have hP : va_P (gD g) vwCl [(h, .inr (3, [.int (th), .int (nI lc), .ref (X 0), .ref (X 1), .int (nI ec), .ref (X 2), .ref (X 3), .ref (X 4), .ref (X 5), .ref (X 6), .ref (X 7), .ref (X 8)])), (X 0, .inl (gI g, 12, .inl (V 0))), (X 1, .inl (gI g, 480, .inl (V 1))), (X 2, .inl (gI g, 24, .inl (V 2))), (X 3, .inl (gI g, 24, .inl (V 3))), (X 4, .inl (gI g, 24, .inl (V 4))), (X 5, .inl (gI g, 192, .inl (V 5))), (X 6, .inl (gI g, 24, .inl (V 6))), (X 7, .inl (gI g, 24, .inl (V 7))), (X 8, .inl (gI g, 24, .inl (V 8)))] H := hP
  have hD : va_D A [(h, .inr (3, [.int (th), .int (nI lc), .ref (X 0), .ref (X 1), .int (nI ec), .ref (X 2), .ref (X 3), .ref (X 4), .ref (X 5), .ref (X 6), .ref (X 7), .ref (X 8)])), (X 0, .inl (gI g, 12, .inl (V 0))), (X 1, .inl (gI g, 480, .inl (V 1))), (X 2, .inl (gI g, 24, .inl (V 2))), (X 3, .inl (gI g, 24, .inl (V 3))), (X 4, .inl (gI g, 24, .inl (V 4))), (X 5, .inl (gI g, 192, .inl (V 5))), (X 6, .inl (gI g, 24, .inl (V 6))), (X 7, .inl (gI g, 24, .inl (V 7))), (X 8, .inl (gI g, 24, .inl (V 8)))] := hD
  refine lv_aload_n hx hb dX3_digestOf_0 rfl (lv_at hl 0 rfl) ?_
  refine lv_iconst (v := 0) hx hb dX3_digestOf_1 (by decide +kernel) ?_
  refine va_put (D := gD g) (ci := 3) (v := .int (0)) (ty := .int) (C := RX3) (T := TX3) (N := 12) hx hb hts iX3 tyX3 tyX3_ok nmX3 hown hK.1 hP hD hS 0 rfl rfl 0 (by decide) f37 (fun _ h9 => h9) rfl (by decide +kernel) rfl rfl (Nat.le_of_ble_eq_true rfl) dX3_digestOf_2 (fun H locs hP hD hS => ?_)
  have hP : va_P (gD g) vwCl [(h, .inr (3, [.int (0), .int (nI lc), .ref (X 0), .ref (X 1), .int (nI ec), .ref (X 2), .ref (X 3), .ref (X 4), .ref (X 5), .ref (X 6), .ref (X 7), .ref (X 8)])), (X 0, .inl (gI g, 12, .inl (V 0))), (X 1, .inl (gI g, 480, .inl (V 1))), (X 2, .inl (gI g, 24, .inl (V 2))), (X 3, .inl (gI g, 24, .inl (V 3))), (X 4, .inl (gI g, 24, .inl (V 4))), (X 5, .inl (gI g, 192, .inl (V 5))), (X 6, .inl (gI g, 24, .inl (V 6))), (X 7, .inl (gI g, 24, .inl (V 7))), (X 8, .inl (gI g, 24, .inl (V 8)))] H := hP
  have hD : va_D A [(h, .inr (3, [.int (0), .int (nI lc), .ref (X 0), .ref (X 1), .int (nI ec), .ref (X 2), .ref (X 3), .ref (X 4), .ref (X 5), .ref (X 6), .ref (X 7), .ref (X 8)])), (X 0, .inl (gI g, 12, .inl (V 0))), (X 1, .inl (gI g, 480, .inl (V 1))), (X 2, .inl (gI g, 24, .inl (V 2))), (X 3, .inl (gI g, 24, .inl (V 3))), (X 4, .inl (gI g, 24, .inl (V 4))), (X 5, .inl (gI g, 192, .inl (V 5))), (X 6, .inl (gI g, 24, .inl (V 6))), (X 7, .inl (gI g, 24, .inl (V 7))), (X 8, .inl (gI g, 24, .inl (V 8)))] := hD
  refine lv_aload_n hx hb dX3_digestOf_5 rfl (lv_at hl 0 rfl) ?_
  refine lv_iload_n hx hb dX3_digestOf_6 rfl (lv_at hl 1 rfl) ?_
  refine p_V (As := [.int (x)]) (rest := []) S (c_X3_isLetter l g h X V 0 lc ec (x) hlc hec) (cwV 1 hts gX3_digestOf_X3_isLetter rfl rfl rfl (by decide +kernel) ⟨Nat.le_of_ble_eq_true rfl, Nat.le_of_ble_eq_true rfl⟩) hK (va_recv hK.1 hP (ci := 3) (q0 := 0) rfl rfl) (hP) rfl hl.1 rfl (Nat.le_of_ble_eq_true rfl) dX3_digestOf_7 ⟨Nat.le_of_ble_eq_true rfl, Nat.le_of_ble_eq_true rfl⟩ ?_
  refine br_eqB (tgt := 21) hx hb dX3_digestOf_10 (by decide) (fun c10 => ?_) (fun c10 => ?_)
  · refine lv_aload_n hx hb dX3_digestOf_21 rfl (lv_at hl 0 rfl) ?_
    refine lv_iconst (v := 1) hx hb dX3_digestOf_22 (by decide +kernel) ?_
    refine w_V (As := [.int (1)]) (rest := []) S (c_X3_no l g h X V 0 lc ec (1)) (cwV 1 hts gX3_digestOf_X3_no rfl rfl rfl (by decide +kernel) ⟨Nat.le_of_ble_eq_true rfl, Nat.le_of_ble_eq_true rfl⟩) hK (va_recv hK.1 hP (ci := 3) (q0 := 0) rfl rfl) hP (hD.weaken (fun _ _ _ _ => trivial)) hS (wA_D hD [0, 1, 2, 3, 4, 5, 6, 7, 8, 9] rfl) rfl hl.1 rfl (Nat.le_of_ble_eq_true rfl) dX3_digestOf_23 ⟨Nat.le_of_ble_eq_true rfl, Nat.le_of_ble_eq_true rfl⟩ (fun H locs hP1 hz1 hk1 hS => ?_)
    have hP : va_P (gD g) vwCl [(h, .inr (3, [.int (1), .int (nI lc), .ref (X 0), .ref (X 1), .int (nI ec), .ref (X 2), .ref (X 3), .ref (X 4), .ref (X 5), .ref (X 6), .ref (X 7), .ref (X 8)])), (X 0, .inl (gI g, 12, .inl (V 0))), (X 1, .inl (gI g, 480, .inl (V 1))), (X 2, .inl (gI g, 24, .inl (V 2))), (X 3, .inl (gI g, 24, .inl (V 3))), (X 4, .inl (gI g, 24, .inl (V 4))), (X 5, .inl (gI g, 192, .inl (V 5))), (X 6, .inl (gI g, 24, .inl (V 6))), (X 7, .inl (gI g, 24, .inl (V 7))), (X 8, .inl (gI g, 24, .inl (V 8)))] H := hP1
    have hD : va_D A [(h, .inr (3, [.int (1), .int (nI lc), .ref (X 0), .ref (X 1), .int (nI ec), .ref (X 2), .ref (X 3), .ref (X 4), .ref (X 5), .ref (X 6), .ref (X 7), .ref (X 8)])), (X 0, .inl (gI g, 12, .inl (V 0))), (X 1, .inl (gI g, 480, .inl (V 1))), (X 2, .inl (gI g, 24, .inl (V 2))), (X 3, .inl (gI g, 24, .inl (V 3))), (X 4, .inl (gI g, 24, .inl (V 4))), (X 5, .inl (gI g, 192, .inl (V 5))), (X 6, .inl (gI g, 24, .inl (V 6))), (X 7, .inl (gI g, 24, .inl (V 7))), (X 8, .inl (gI g, 24, .inl (V 8)))] := D_same hD rfl
    exact hret _ _ _ _ hP hS dX3_digestOf_26
  · exact absurd c10 (by rw [hxb]; decide)

set_option maxHeartbeats 4000000 in
set_option maxRecDepth 100000 in
/-- unnoticed -/
theorem c_X3_unnoticed (l : Launch) (g : gT) (h : Nat) (X : Nat → Nat) (V : Nat → Nat → Int32) (th : Int32) (lc ec : Nat) (NN : Nat → Nat) (hlc : lc ≤ 12) (hec : ec ≤ 24) (hNN : ∀ i, i < lc → V 0 i = nI (NN i) ∧ NN i ≤ 40) (k : Nat) (hk : k < lc) : wM g l yX3_unnoticed wsX3_unnoticed { frames := 2, cells := 0, slots := 0, locals := 46 } [.ref (h), .int (nI k)] (mdW g h X V th lc ec) (some (.int (unF (rwV V k) (NN k)))) (mdW g h X V 0 lc ec) := by
  refine wr_ofI (cc := cX3_unnoticed) (maxL := 2) (by decide) rfl (Nat.le_of_ble_eq_true rfl) ?_
  intro p e s m args below meth c H0 ls A Q hx hb hml hts hown hK hP hD hS hl hret
  have hl : lv_has ls 2 [(0, .ref (h)), (1, .int (nI k))] := hl
  have S : CallFix p m c cX3_unnoticed 2 s args wsX3_unnoticed RX3 := ⟨hx, hb, hml, hown, hts⟩
  have hgk : inB (nI k) lc = true := inB_nI hk (by omega)
  have hVn := (hNN k hk).1
  have hn := (hNN k hk).2
  have iX3 : ∀ w ∈ u_ws RX3 TX3 12, w ∈ wsX3_unnoticed := by decide +kernel
  have f37 := hts (.fieldLink RX3 37 "LetterSealsModel" "thrown" "I") (by decide +kernel)
  obtain ⟨H, eH⟩ : ∃ H : Heap, H = H0 := ⟨_, rfl⟩
  rw [← eH] at hP ⊢
  have hS : va_S A H0 H [] := by rw [eH]; exact hS
  have hP : va_P (gD g) vwCl [(h, .inr (3, [.int (th), .int (nI lc), .ref (X 0), .ref (X 1), .int (nI ec), .ref (X 2), .ref (X 3), .ref (X 4), .ref (X 5), .ref (X 6), .ref (X 7), .ref (X 8)])), (X 0, .inl (gI g, 12, .inl (V 0))), (X 1, .inl (gI g, 480, .inl (V 1))), (X 2, .inl (gI g, 24, .inl (V 2))), (X 3, .inl (gI g, 24, .inl (V 3))), (X 4, .inl (gI g, 24, .inl (V 4))), (X 5, .inl (gI g, 192, .inl (V 5))), (X 6, .inl (gI g, 24, .inl (V 6))), (X 7, .inl (gI g, 24, .inl (V 7))), (X 8, .inl (gI g, 24, .inl (V 8)))] H := hP
  have hD : va_D A [(h, .inr (3, [.int (th), .int (nI lc), .ref (X 0), .ref (X 1), .int (nI ec), .ref (X 2), .ref (X 3), .ref (X 4), .ref (X 5), .ref (X 6), .ref (X 7), .ref (X 8)])), (X 0, .inl (gI g, 12, .inl (V 0))), (X 1, .inl (gI g, 480, .inl (V 1))), (X 2, .inl (gI g, 24, .inl (V 2))), (X 3, .inl (gI g, 24, .inl (V 3))), (X 4, .inl (gI g, 24, .inl (V 4))), (X 5, .inl (gI g, 192, .inl (V 5))), (X 6, .inl (gI g, 24, .inl (V 6))), (X 7, .inl (gI g, 24, .inl (V 7))), (X 8, .inl (gI g, 24, .inl (V 8)))] := hD
  refine lv_aload_n hx hb dX3_unnoticed_0 rfl (lv_at hl 0 rfl) ?_
  refine lv_iconst (v := 0) hx hb dX3_unnoticed_1 (by decide +kernel) ?_
  refine va_put (D := gD g) (ci := 3) (v := .int (0)) (ty := .int) (C := RX3) (T := TX3) (N := 12) hx hb hts iX3 tyX3 tyX3_ok nmX3 hown hK.1 hP hD hS 0 rfl rfl 0 (by decide) f37 (fun _ h9 => h9) rfl (by decide +kernel) rfl rfl (Nat.le_of_ble_eq_true rfl) dX3_unnoticed_2 (fun H locs hP hD hS => ?_)
  have hP : va_P (gD g) vwCl [(h, .inr (3, [.int (0), .int (nI lc), .ref (X 0), .ref (X 1), .int (nI ec), .ref (X 2), .ref (X 3), .ref (X 4), .ref (X 5), .ref (X 6), .ref (X 7), .ref (X 8)])), (X 0, .inl (gI g, 12, .inl (V 0))), (X 1, .inl (gI g, 480, .inl (V 1))), (X 2, .inl (gI g, 24, .inl (V 2))), (X 3, .inl (gI g, 24, .inl (V 3))), (X 4, .inl (gI g, 24, .inl (V 4))), (X 5, .inl (gI g, 192, .inl (V 5))), (X 6, .inl (gI g, 24, .inl (V 6))), (X 7, .inl (gI g, 24, .inl (V 7))), (X 8, .inl (gI g, 24, .inl (V 8)))] H := hP
  have hD : va_D A [(h, .inr (3, [.int (0), .int (nI lc), .ref (X 0), .ref (X 1), .int (nI ec), .ref (X 2), .ref (X 3), .ref (X 4), .ref (X 5), .ref (X 6), .ref (X 7), .ref (X 8)])), (X 0, .inl (gI g, 12, .inl (V 0))), (X 1, .inl (gI g, 480, .inl (V 1))), (X 2, .inl (gI g, 24, .inl (V 2))), (X 3, .inl (gI g, 24, .inl (V 3))), (X 4, .inl (gI g, 24, .inl (V 4))), (X 5, .inl (gI g, 192, .inl (V 5))), (X 6, .inl (gI g, 24, .inl (V 6))), (X 7, .inl (gI g, 24, .inl (V 7))), (X 8, .inl (gI g, 24, .inl (V 8)))] := hD
  refine lv_aload_n hx hb dX3_unnoticed_5 rfl (lv_at hl 0 rfl) ?_
  refine lv_iload_n hx hb dX3_unnoticed_6 rfl (lv_at hl 1 rfl) ?_
  refine p_V (As := [.int (nI k)]) (rest := []) S (c_X3_isLetter l g h X V 0 lc ec (nI k) hlc hec) (cwV 1 hts gX3_unnoticed_X3_isLetter rfl rfl rfl (by decide +kernel) ⟨Nat.le_of_ble_eq_true rfl, Nat.le_of_ble_eq_true rfl⟩) hK (va_recv hK.1 hP (ci := 3) (q0 := 0) rfl rfl) (hP) rfl hl.1 rfl (Nat.le_of_ble_eq_true rfl) dX3_unnoticed_7 ⟨Nat.le_of_ble_eq_true rfl, Nat.le_of_ble_eq_true rfl⟩ ?_
  refine br_eqB (tgt := 21) hx hb dX3_unnoticed_10 (by decide) (fun c10 => ?_) (fun c10 => ?_)
  · exact absurd c10 (by rw [hgk]; decide)
  · refine lv_aload_n hx hb dX3_unnoticed_13 rfl (lv_at hl 0 rfl) ?_
    refine lv_iload_n hx hb dX3_unnoticed_14 rfl (lv_at hl 1 rfl) ?_
    refine p_V (As := [.int (nI k)]) (rest := []) S (c_X3_unnoticedIn l g h X V 0 lc ec NN hlc hec hNN k hk) (cwV 1 hts gX3_unnoticed_X3_unnoticedIn rfl rfl rfl (by decide +kernel) ⟨Nat.le_of_ble_eq_true rfl, Nat.le_of_ble_eq_true rfl⟩) hK (va_recv hK.1 hP (ci := 3) (q0 := 0) rfl rfl) (hP) rfl hl.1 rfl (Nat.le_of_ble_eq_true rfl) dX3_unnoticed_15 ⟨Nat.le_of_ble_eq_true rfl, Nat.le_of_ble_eq_true rfl⟩ ?_
    refine lv_goto (tgt := 26) hx hb dX3_unnoticed_18 (by decide) ?_
    exact hret _ _ _ _ hP hS dX3_unnoticed_26

set_option maxHeartbeats 4000000 in
set_option maxRecDepth 100000 in
/-- unnoticed_1 -/
theorem c_X3_unnoticed_1 (l : Launch) (g : gT) (h : Nat) (X : Nat → Nat) (V : Nat → Nat → Int32) (th : Int32) (lc ec : Nat) (hlc : lc ≤ 12) (hec : ec ≤ 24) (x : Int32) (hxb : inB x lc = false) : wM g l yX3_unnoticed wsX3_unnoticed { frames := 2, cells := 0, slots := 0, locals := 46 } [.ref (h), .int (x)] (mdW g h X V th lc ec) (some (.int (0))) (mdW g h X V 1 lc ec) := by
  refine wr_ofI (cc := cX3_unnoticed) (maxL := 2) (by decide) rfl (Nat.le_of_ble_eq_true rfl) ?_
  intro p e s m args below meth c H0 ls A Q hx hb hml hts hown hK hP hD hS hl hret
  have hl : lv_has ls 2 [(0, .ref (h)), (1, .int (x))] := hl
  have S : CallFix p m c cX3_unnoticed 2 s args wsX3_unnoticed RX3 := ⟨hx, hb, hml, hown, hts⟩
  have iX3 : ∀ w ∈ u_ws RX3 TX3 12, w ∈ wsX3_unnoticed := by decide +kernel
  have f37 := hts (.fieldLink RX3 37 "LetterSealsModel" "thrown" "I") (by decide +kernel)
  obtain ⟨H, eH⟩ : ∃ H : Heap, H = H0 := ⟨_, rfl⟩
  rw [← eH] at hP ⊢
  have hS : va_S A H0 H [] := by rw [eH]; exact hS
  have hP : va_P (gD g) vwCl [(h, .inr (3, [.int (th), .int (nI lc), .ref (X 0), .ref (X 1), .int (nI ec), .ref (X 2), .ref (X 3), .ref (X 4), .ref (X 5), .ref (X 6), .ref (X 7), .ref (X 8)])), (X 0, .inl (gI g, 12, .inl (V 0))), (X 1, .inl (gI g, 480, .inl (V 1))), (X 2, .inl (gI g, 24, .inl (V 2))), (X 3, .inl (gI g, 24, .inl (V 3))), (X 4, .inl (gI g, 24, .inl (V 4))), (X 5, .inl (gI g, 192, .inl (V 5))), (X 6, .inl (gI g, 24, .inl (V 6))), (X 7, .inl (gI g, 24, .inl (V 7))), (X 8, .inl (gI g, 24, .inl (V 8)))] H := hP
  have hD : va_D A [(h, .inr (3, [.int (th), .int (nI lc), .ref (X 0), .ref (X 1), .int (nI ec), .ref (X 2), .ref (X 3), .ref (X 4), .ref (X 5), .ref (X 6), .ref (X 7), .ref (X 8)])), (X 0, .inl (gI g, 12, .inl (V 0))), (X 1, .inl (gI g, 480, .inl (V 1))), (X 2, .inl (gI g, 24, .inl (V 2))), (X 3, .inl (gI g, 24, .inl (V 3))), (X 4, .inl (gI g, 24, .inl (V 4))), (X 5, .inl (gI g, 192, .inl (V 5))), (X 6, .inl (gI g, 24, .inl (V 6))), (X 7, .inl (gI g, 24, .inl (V 7))), (X 8, .inl (gI g, 24, .inl (V 8)))] := hD
  refine lv_aload_n hx hb dX3_unnoticed_0 rfl (lv_at hl 0 rfl) ?_
  refine lv_iconst (v := 0) hx hb dX3_unnoticed_1 (by decide +kernel) ?_
  refine va_put (D := gD g) (ci := 3) (v := .int (0)) (ty := .int) (C := RX3) (T := TX3) (N := 12) hx hb hts iX3 tyX3 tyX3_ok nmX3 hown hK.1 hP hD hS 0 rfl rfl 0 (by decide) f37 (fun _ h9 => h9) rfl (by decide +kernel) rfl rfl (Nat.le_of_ble_eq_true rfl) dX3_unnoticed_2 (fun H locs hP hD hS => ?_)
  have hP : va_P (gD g) vwCl [(h, .inr (3, [.int (0), .int (nI lc), .ref (X 0), .ref (X 1), .int (nI ec), .ref (X 2), .ref (X 3), .ref (X 4), .ref (X 5), .ref (X 6), .ref (X 7), .ref (X 8)])), (X 0, .inl (gI g, 12, .inl (V 0))), (X 1, .inl (gI g, 480, .inl (V 1))), (X 2, .inl (gI g, 24, .inl (V 2))), (X 3, .inl (gI g, 24, .inl (V 3))), (X 4, .inl (gI g, 24, .inl (V 4))), (X 5, .inl (gI g, 192, .inl (V 5))), (X 6, .inl (gI g, 24, .inl (V 6))), (X 7, .inl (gI g, 24, .inl (V 7))), (X 8, .inl (gI g, 24, .inl (V 8)))] H := hP
  have hD : va_D A [(h, .inr (3, [.int (0), .int (nI lc), .ref (X 0), .ref (X 1), .int (nI ec), .ref (X 2), .ref (X 3), .ref (X 4), .ref (X 5), .ref (X 6), .ref (X 7), .ref (X 8)])), (X 0, .inl (gI g, 12, .inl (V 0))), (X 1, .inl (gI g, 480, .inl (V 1))), (X 2, .inl (gI g, 24, .inl (V 2))), (X 3, .inl (gI g, 24, .inl (V 3))), (X 4, .inl (gI g, 24, .inl (V 4))), (X 5, .inl (gI g, 192, .inl (V 5))), (X 6, .inl (gI g, 24, .inl (V 6))), (X 7, .inl (gI g, 24, .inl (V 7))), (X 8, .inl (gI g, 24, .inl (V 8)))] := hD
  refine lv_aload_n hx hb dX3_unnoticed_5 rfl (lv_at hl 0 rfl) ?_
  refine lv_iload_n hx hb dX3_unnoticed_6 rfl (lv_at hl 1 rfl) ?_
  refine p_V (As := [.int (x)]) (rest := []) S (c_X3_isLetter l g h X V 0 lc ec (x) hlc hec) (cwV 1 hts gX3_unnoticed_X3_isLetter rfl rfl rfl (by decide +kernel) ⟨Nat.le_of_ble_eq_true rfl, Nat.le_of_ble_eq_true rfl⟩) hK (va_recv hK.1 hP (ci := 3) (q0 := 0) rfl rfl) (hP) rfl hl.1 rfl (Nat.le_of_ble_eq_true rfl) dX3_unnoticed_7 ⟨Nat.le_of_ble_eq_true rfl, Nat.le_of_ble_eq_true rfl⟩ ?_
  refine br_eqB (tgt := 21) hx hb dX3_unnoticed_10 (by decide) (fun c10 => ?_) (fun c10 => ?_)
  · refine lv_aload_n hx hb dX3_unnoticed_21 rfl (lv_at hl 0 rfl) ?_
    refine lv_iconst (v := 1) hx hb dX3_unnoticed_22 (by decide +kernel) ?_
    refine w_V (As := [.int (1)]) (rest := []) S (c_X3_no l g h X V 0 lc ec (1)) (cwV 1 hts gX3_unnoticed_X3_no rfl rfl rfl (by decide +kernel) ⟨Nat.le_of_ble_eq_true rfl, Nat.le_of_ble_eq_true rfl⟩) hK (va_recv hK.1 hP (ci := 3) (q0 := 0) rfl rfl) hP (hD.weaken (fun _ _ _ _ => trivial)) hS (wA_D hD [0, 1, 2, 3, 4, 5, 6, 7, 8, 9] rfl) rfl hl.1 rfl (Nat.le_of_ble_eq_true rfl) dX3_unnoticed_23 ⟨Nat.le_of_ble_eq_true rfl, Nat.le_of_ble_eq_true rfl⟩ (fun H locs hP1 hz1 hk1 hS => ?_)
    have hP : va_P (gD g) vwCl [(h, .inr (3, [.int (1), .int (nI lc), .ref (X 0), .ref (X 1), .int (nI ec), .ref (X 2), .ref (X 3), .ref (X 4), .ref (X 5), .ref (X 6), .ref (X 7), .ref (X 8)])), (X 0, .inl (gI g, 12, .inl (V 0))), (X 1, .inl (gI g, 480, .inl (V 1))), (X 2, .inl (gI g, 24, .inl (V 2))), (X 3, .inl (gI g, 24, .inl (V 3))), (X 4, .inl (gI g, 24, .inl (V 4))), (X 5, .inl (gI g, 192, .inl (V 5))), (X 6, .inl (gI g, 24, .inl (V 6))), (X 7, .inl (gI g, 24, .inl (V 7))), (X 8, .inl (gI g, 24, .inl (V 8)))] H := hP1
    have hD : va_D A [(h, .inr (3, [.int (1), .int (nI lc), .ref (X 0), .ref (X 1), .int (nI ec), .ref (X 2), .ref (X 3), .ref (X 4), .ref (X 5), .ref (X 6), .ref (X 7), .ref (X 8)])), (X 0, .inl (gI g, 12, .inl (V 0))), (X 1, .inl (gI g, 480, .inl (V 1))), (X 2, .inl (gI g, 24, .inl (V 2))), (X 3, .inl (gI g, 24, .inl (V 3))), (X 4, .inl (gI g, 24, .inl (V 4))), (X 5, .inl (gI g, 192, .inl (V 5))), (X 6, .inl (gI g, 24, .inl (V 6))), (X 7, .inl (gI g, 24, .inl (V 7))), (X 8, .inl (gI g, 24, .inl (V 8)))] := D_same hD rfl
    exact hret _ _ _ _ hP hS dX3_unnoticed_26
  · exact absurd c10 (by rw [hxb]; decide)

set_option maxHeartbeats 4000000 in
set_option maxRecDepth 100000 in
/-- worstTear -/
theorem c_X3_worstTear (l : Launch) (g : gT) (h : Nat) (X : Nat → Nat) (V : Nat → Nat → Int32) (th : Int32) (lc ec : Nat) (NN : Nat → Nat) (hlc : lc ≤ 12) (hec : ec ≤ 24) (hNN : ∀ i, i < lc → V 0 i = nI (NN i) ∧ NN i ≤ 40) (k : Nat) (hk : k < lc) : wM g l yX3_worstTear wsX3_worstTear { frames := 4, cells := 0, slots := 0, locals := 93 } [.ref (h), .int (nI k)] (mdW g h X V th lc ec) (some (.int ((wmS (rwV V k) (fun i => dgF (wdV V k (nI i) 30) (NN k)) (dgF (rwV V k) (NN k)) (NN k)).1))) (mdW g h X V 0 lc ec) := by
  refine wr_ofI (cc := cX3_worstTear) (maxL := 2) (by decide) rfl (Nat.le_of_ble_eq_true rfl) ?_
  intro p e s m args below meth c H0 ls A Q hx hb hml hts hown hK hP hD hS hl hret
  have hl : lv_has ls 2 [(0, .ref (h)), (1, .int (nI k))] := hl
  have S : CallFix p m c cX3_worstTear 2 s args wsX3_worstTear RX3 := ⟨hx, hb, hml, hown, hts⟩
  have hgk : inB (nI k) lc = true := inB_nI hk (by omega)
  have hVn := (hNN k hk).1
  have hn := (hNN k hk).2
  have iX3 : ∀ w ∈ u_ws RX3 TX3 12, w ∈ wsX3_worstTear := by decide +kernel
  have f37 := hts (.fieldLink RX3 37 "LetterSealsModel" "thrown" "I") (by decide +kernel)
  obtain ⟨H, eH⟩ : ∃ H : Heap, H = H0 := ⟨_, rfl⟩
  rw [← eH] at hP ⊢
  have hS : va_S A H0 H [] := by rw [eH]; exact hS
  have hP : va_P (gD g) vwCl [(h, .inr (3, [.int (th), .int (nI lc), .ref (X 0), .ref (X 1), .int (nI ec), .ref (X 2), .ref (X 3), .ref (X 4), .ref (X 5), .ref (X 6), .ref (X 7), .ref (X 8)])), (X 0, .inl (gI g, 12, .inl (V 0))), (X 1, .inl (gI g, 480, .inl (V 1))), (X 2, .inl (gI g, 24, .inl (V 2))), (X 3, .inl (gI g, 24, .inl (V 3))), (X 4, .inl (gI g, 24, .inl (V 4))), (X 5, .inl (gI g, 192, .inl (V 5))), (X 6, .inl (gI g, 24, .inl (V 6))), (X 7, .inl (gI g, 24, .inl (V 7))), (X 8, .inl (gI g, 24, .inl (V 8)))] H := hP
  have hD : va_D A [(h, .inr (3, [.int (th), .int (nI lc), .ref (X 0), .ref (X 1), .int (nI ec), .ref (X 2), .ref (X 3), .ref (X 4), .ref (X 5), .ref (X 6), .ref (X 7), .ref (X 8)])), (X 0, .inl (gI g, 12, .inl (V 0))), (X 1, .inl (gI g, 480, .inl (V 1))), (X 2, .inl (gI g, 24, .inl (V 2))), (X 3, .inl (gI g, 24, .inl (V 3))), (X 4, .inl (gI g, 24, .inl (V 4))), (X 5, .inl (gI g, 192, .inl (V 5))), (X 6, .inl (gI g, 24, .inl (V 6))), (X 7, .inl (gI g, 24, .inl (V 7))), (X 8, .inl (gI g, 24, .inl (V 8)))] := hD
  refine lv_aload_n hx hb dX3_worstTear_0 rfl (lv_at hl 0 rfl) ?_
  refine lv_iconst (v := 0) hx hb dX3_worstTear_1 (by decide +kernel) ?_
  refine va_put (D := gD g) (ci := 3) (v := .int (0)) (ty := .int) (C := RX3) (T := TX3) (N := 12) hx hb hts iX3 tyX3 tyX3_ok nmX3 hown hK.1 hP hD hS 0 rfl rfl 0 (by decide) f37 (fun _ h9 => h9) rfl (by decide +kernel) rfl rfl (Nat.le_of_ble_eq_true rfl) dX3_worstTear_2 (fun H locs hP hD hS => ?_)
  have hP : va_P (gD g) vwCl [(h, .inr (3, [.int (0), .int (nI lc), .ref (X 0), .ref (X 1), .int (nI ec), .ref (X 2), .ref (X 3), .ref (X 4), .ref (X 5), .ref (X 6), .ref (X 7), .ref (X 8)])), (X 0, .inl (gI g, 12, .inl (V 0))), (X 1, .inl (gI g, 480, .inl (V 1))), (X 2, .inl (gI g, 24, .inl (V 2))), (X 3, .inl (gI g, 24, .inl (V 3))), (X 4, .inl (gI g, 24, .inl (V 4))), (X 5, .inl (gI g, 192, .inl (V 5))), (X 6, .inl (gI g, 24, .inl (V 6))), (X 7, .inl (gI g, 24, .inl (V 7))), (X 8, .inl (gI g, 24, .inl (V 8)))] H := hP
  have hD : va_D A [(h, .inr (3, [.int (0), .int (nI lc), .ref (X 0), .ref (X 1), .int (nI ec), .ref (X 2), .ref (X 3), .ref (X 4), .ref (X 5), .ref (X 6), .ref (X 7), .ref (X 8)])), (X 0, .inl (gI g, 12, .inl (V 0))), (X 1, .inl (gI g, 480, .inl (V 1))), (X 2, .inl (gI g, 24, .inl (V 2))), (X 3, .inl (gI g, 24, .inl (V 3))), (X 4, .inl (gI g, 24, .inl (V 4))), (X 5, .inl (gI g, 192, .inl (V 5))), (X 6, .inl (gI g, 24, .inl (V 6))), (X 7, .inl (gI g, 24, .inl (V 7))), (X 8, .inl (gI g, 24, .inl (V 8)))] := hD
  refine lv_aload_n hx hb dX3_worstTear_5 rfl (lv_at hl 0 rfl) ?_
  refine lv_iload_n hx hb dX3_worstTear_6 rfl (lv_at hl 1 rfl) ?_
  refine p_V (As := [.int (nI k)]) (rest := []) S (c_X3_isLetter l g h X V 0 lc ec (nI k) hlc hec) (cwV 1 hts gX3_worstTear_X3_isLetter rfl rfl rfl (by decide +kernel) ⟨Nat.le_of_ble_eq_true rfl, Nat.le_of_ble_eq_true rfl⟩) hK (va_recv hK.1 hP (ci := 3) (q0 := 0) rfl rfl) (hP) rfl hl.1 rfl (Nat.le_of_ble_eq_true rfl) dX3_worstTear_7 ⟨Nat.le_of_ble_eq_true rfl, Nat.le_of_ble_eq_true rfl⟩ ?_
  refine br_eqB (tgt := 21) hx hb dX3_worstTear_10 (by decide) (fun c10 => ?_) (fun c10 => ?_)
  · exact absurd c10 (by rw [hgk]; decide)
  · refine lv_aload_n hx hb dX3_worstTear_13 rfl (lv_at hl 0 rfl) ?_
    refine lv_iload_n hx hb dX3_worstTear_14 rfl (lv_at hl 1 rfl) ?_
    refine p_V (As := [.int (nI k)]) (rest := []) S (c_X3_worst l g h X V 0 lc ec NN hlc hec hNN k hk) (cwV 1 hts gX3_worstTear_X3_worst rfl rfl rfl (by decide +kernel) ⟨Nat.le_of_ble_eq_true rfl, Nat.le_of_ble_eq_true rfl⟩) hK (va_recv hK.1 hP (ci := 3) (q0 := 0) rfl rfl) (hP) rfl hl.1 rfl (Nat.le_of_ble_eq_true rfl) dX3_worstTear_15 ⟨Nat.le_of_ble_eq_true rfl, Nat.le_of_ble_eq_true rfl⟩ ?_
    refine lv_goto (tgt := 26) hx hb dX3_worstTear_18 (by decide) ?_
    exact hret _ _ _ _ hP hS dX3_worstTear_26

set_option maxHeartbeats 4000000 in
set_option maxRecDepth 100000 in
/-- worstTear_1 -/
theorem c_X3_worstTear_1 (l : Launch) (g : gT) (h : Nat) (X : Nat → Nat) (V : Nat → Nat → Int32) (th : Int32) (lc ec : Nat) (hlc : lc ≤ 12) (hec : ec ≤ 24) (x : Int32) (hxb : inB x lc = false) : wM g l yX3_worstTear wsX3_worstTear { frames := 4, cells := 0, slots := 0, locals := 93 } [.ref (h), .int (x)] (mdW g h X V th lc ec) (some (.int (0))) (mdW g h X V 1 lc ec) := by
  refine wr_ofI (cc := cX3_worstTear) (maxL := 2) (by decide) rfl (Nat.le_of_ble_eq_true rfl) ?_
  intro p e s m args below meth c H0 ls A Q hx hb hml hts hown hK hP hD hS hl hret
  have hl : lv_has ls 2 [(0, .ref (h)), (1, .int (x))] := hl
  have S : CallFix p m c cX3_worstTear 2 s args wsX3_worstTear RX3 := ⟨hx, hb, hml, hown, hts⟩
  have iX3 : ∀ w ∈ u_ws RX3 TX3 12, w ∈ wsX3_worstTear := by decide +kernel
  have f37 := hts (.fieldLink RX3 37 "LetterSealsModel" "thrown" "I") (by decide +kernel)
  obtain ⟨H, eH⟩ : ∃ H : Heap, H = H0 := ⟨_, rfl⟩
  rw [← eH] at hP ⊢
  have hS : va_S A H0 H [] := by rw [eH]; exact hS
  have hP : va_P (gD g) vwCl [(h, .inr (3, [.int (th), .int (nI lc), .ref (X 0), .ref (X 1), .int (nI ec), .ref (X 2), .ref (X 3), .ref (X 4), .ref (X 5), .ref (X 6), .ref (X 7), .ref (X 8)])), (X 0, .inl (gI g, 12, .inl (V 0))), (X 1, .inl (gI g, 480, .inl (V 1))), (X 2, .inl (gI g, 24, .inl (V 2))), (X 3, .inl (gI g, 24, .inl (V 3))), (X 4, .inl (gI g, 24, .inl (V 4))), (X 5, .inl (gI g, 192, .inl (V 5))), (X 6, .inl (gI g, 24, .inl (V 6))), (X 7, .inl (gI g, 24, .inl (V 7))), (X 8, .inl (gI g, 24, .inl (V 8)))] H := hP
  have hD : va_D A [(h, .inr (3, [.int (th), .int (nI lc), .ref (X 0), .ref (X 1), .int (nI ec), .ref (X 2), .ref (X 3), .ref (X 4), .ref (X 5), .ref (X 6), .ref (X 7), .ref (X 8)])), (X 0, .inl (gI g, 12, .inl (V 0))), (X 1, .inl (gI g, 480, .inl (V 1))), (X 2, .inl (gI g, 24, .inl (V 2))), (X 3, .inl (gI g, 24, .inl (V 3))), (X 4, .inl (gI g, 24, .inl (V 4))), (X 5, .inl (gI g, 192, .inl (V 5))), (X 6, .inl (gI g, 24, .inl (V 6))), (X 7, .inl (gI g, 24, .inl (V 7))), (X 8, .inl (gI g, 24, .inl (V 8)))] := hD
  refine lv_aload_n hx hb dX3_worstTear_0 rfl (lv_at hl 0 rfl) ?_
  refine lv_iconst (v := 0) hx hb dX3_worstTear_1 (by decide +kernel) ?_
  refine va_put (D := gD g) (ci := 3) (v := .int (0)) (ty := .int) (C := RX3) (T := TX3) (N := 12) hx hb hts iX3 tyX3 tyX3_ok nmX3 hown hK.1 hP hD hS 0 rfl rfl 0 (by decide) f37 (fun _ h9 => h9) rfl (by decide +kernel) rfl rfl (Nat.le_of_ble_eq_true rfl) dX3_worstTear_2 (fun H locs hP hD hS => ?_)
  have hP : va_P (gD g) vwCl [(h, .inr (3, [.int (0), .int (nI lc), .ref (X 0), .ref (X 1), .int (nI ec), .ref (X 2), .ref (X 3), .ref (X 4), .ref (X 5), .ref (X 6), .ref (X 7), .ref (X 8)])), (X 0, .inl (gI g, 12, .inl (V 0))), (X 1, .inl (gI g, 480, .inl (V 1))), (X 2, .inl (gI g, 24, .inl (V 2))), (X 3, .inl (gI g, 24, .inl (V 3))), (X 4, .inl (gI g, 24, .inl (V 4))), (X 5, .inl (gI g, 192, .inl (V 5))), (X 6, .inl (gI g, 24, .inl (V 6))), (X 7, .inl (gI g, 24, .inl (V 7))), (X 8, .inl (gI g, 24, .inl (V 8)))] H := hP
  have hD : va_D A [(h, .inr (3, [.int (0), .int (nI lc), .ref (X 0), .ref (X 1), .int (nI ec), .ref (X 2), .ref (X 3), .ref (X 4), .ref (X 5), .ref (X 6), .ref (X 7), .ref (X 8)])), (X 0, .inl (gI g, 12, .inl (V 0))), (X 1, .inl (gI g, 480, .inl (V 1))), (X 2, .inl (gI g, 24, .inl (V 2))), (X 3, .inl (gI g, 24, .inl (V 3))), (X 4, .inl (gI g, 24, .inl (V 4))), (X 5, .inl (gI g, 192, .inl (V 5))), (X 6, .inl (gI g, 24, .inl (V 6))), (X 7, .inl (gI g, 24, .inl (V 7))), (X 8, .inl (gI g, 24, .inl (V 8)))] := hD
  refine lv_aload_n hx hb dX3_worstTear_5 rfl (lv_at hl 0 rfl) ?_
  refine lv_iload_n hx hb dX3_worstTear_6 rfl (lv_at hl 1 rfl) ?_
  refine p_V (As := [.int (x)]) (rest := []) S (c_X3_isLetter l g h X V 0 lc ec (x) hlc hec) (cwV 1 hts gX3_worstTear_X3_isLetter rfl rfl rfl (by decide +kernel) ⟨Nat.le_of_ble_eq_true rfl, Nat.le_of_ble_eq_true rfl⟩) hK (va_recv hK.1 hP (ci := 3) (q0 := 0) rfl rfl) (hP) rfl hl.1 rfl (Nat.le_of_ble_eq_true rfl) dX3_worstTear_7 ⟨Nat.le_of_ble_eq_true rfl, Nat.le_of_ble_eq_true rfl⟩ ?_
  refine br_eqB (tgt := 21) hx hb dX3_worstTear_10 (by decide) (fun c10 => ?_) (fun c10 => ?_)
  · refine lv_aload_n hx hb dX3_worstTear_21 rfl (lv_at hl 0 rfl) ?_
    refine lv_iconst (v := 1) hx hb dX3_worstTear_22 (by decide +kernel) ?_
    refine w_V (As := [.int (1)]) (rest := []) S (c_X3_no l g h X V 0 lc ec (1)) (cwV 1 hts gX3_worstTear_X3_no rfl rfl rfl (by decide +kernel) ⟨Nat.le_of_ble_eq_true rfl, Nat.le_of_ble_eq_true rfl⟩) hK (va_recv hK.1 hP (ci := 3) (q0 := 0) rfl rfl) hP (hD.weaken (fun _ _ _ _ => trivial)) hS (wA_D hD [0, 1, 2, 3, 4, 5, 6, 7, 8, 9] rfl) rfl hl.1 rfl (Nat.le_of_ble_eq_true rfl) dX3_worstTear_23 ⟨Nat.le_of_ble_eq_true rfl, Nat.le_of_ble_eq_true rfl⟩ (fun H locs hP1 hz1 hk1 hS => ?_)
    have hP : va_P (gD g) vwCl [(h, .inr (3, [.int (1), .int (nI lc), .ref (X 0), .ref (X 1), .int (nI ec), .ref (X 2), .ref (X 3), .ref (X 4), .ref (X 5), .ref (X 6), .ref (X 7), .ref (X 8)])), (X 0, .inl (gI g, 12, .inl (V 0))), (X 1, .inl (gI g, 480, .inl (V 1))), (X 2, .inl (gI g, 24, .inl (V 2))), (X 3, .inl (gI g, 24, .inl (V 3))), (X 4, .inl (gI g, 24, .inl (V 4))), (X 5, .inl (gI g, 192, .inl (V 5))), (X 6, .inl (gI g, 24, .inl (V 6))), (X 7, .inl (gI g, 24, .inl (V 7))), (X 8, .inl (gI g, 24, .inl (V 8)))] H := hP1
    have hD : va_D A [(h, .inr (3, [.int (1), .int (nI lc), .ref (X 0), .ref (X 1), .int (nI ec), .ref (X 2), .ref (X 3), .ref (X 4), .ref (X 5), .ref (X 6), .ref (X 7), .ref (X 8)])), (X 0, .inl (gI g, 12, .inl (V 0))), (X 1, .inl (gI g, 480, .inl (V 1))), (X 2, .inl (gI g, 24, .inl (V 2))), (X 3, .inl (gI g, 24, .inl (V 3))), (X 4, .inl (gI g, 24, .inl (V 4))), (X 5, .inl (gI g, 192, .inl (V 5))), (X 6, .inl (gI g, 24, .inl (V 6))), (X 7, .inl (gI g, 24, .inl (V 7))), (X 8, .inl (gI g, 24, .inl (V 8)))] := D_same hD rfl
    exact hret _ _ _ _ hP hS dX3_worstTear_26
  · exact absurd c10 (by rw [hxb]; decide)

set_option maxHeartbeats 4000000 in
set_option maxRecDepth 100000 in
/-- signAt -/
theorem c_X3_signAt (l : Launch) (g : gT) (h : Nat) (X : Nat → Nat) (V : Nat → Nat → Int32) (th : Int32) (lc ec : Nat) (NN : Nat → Nat) (hlc : lc ≤ 12) (hec : ec ≤ 24) (hNN : ∀ i, i < lc → V 0 i = nI (NN i) ∧ NN i ≤ 40) (k : Nat) (hk : k < lc) (j : Nat) (hj : j < NN k) : wM g l yX3_signAt wsX3_signAt { frames := 3, cells := 0, slots := 0, locals := 65 } [.ref (h), .int (nI k), .int (nI j)] (mdW g h X V th lc ec) (some (.int (V 1 (40 * k + j)))) (mdW g h X V 0 lc ec) := by
  refine wr_ofI (cc := cX3_signAt) (maxL := 3) (by decide) rfl (Nat.le_of_ble_eq_true rfl) ?_
  intro p e s m args below meth c H0 ls A Q hx hb hml hts hown hK hP hD hS hl hret
  have hl : lv_has ls 3 [(0, .ref (h)), (1, .int (nI k)), (2, .int (nI j))] := hl
  have S : CallFix p m c cX3_signAt 3 s args wsX3_signAt RX3 := ⟨hx, hb, hml, hown, hts⟩
  have hgk : inB (nI k) lc = true := inB_nI hk (by omega)
  have hVn := (hNN k hk).1
  have hn := (hNN k hk).2
  have hgj : inB (nI j) (NN k) = true := inB_nI hj (by omega)
  have iX3 : ∀ w ∈ u_ws RX3 TX3 12, w ∈ wsX3_signAt := by decide +kernel
  have f37 := hts (.fieldLink RX3 37 "LetterSealsModel" "thrown" "I") (by decide +kernel)
  obtain ⟨H, eH⟩ : ∃ H : Heap, H = H0 := ⟨_, rfl⟩
  rw [← eH] at hP ⊢
  have hS : va_S A H0 H [] := by rw [eH]; exact hS
  have hP : va_P (gD g) vwCl [(h, .inr (3, [.int (th), .int (nI lc), .ref (X 0), .ref (X 1), .int (nI ec), .ref (X 2), .ref (X 3), .ref (X 4), .ref (X 5), .ref (X 6), .ref (X 7), .ref (X 8)])), (X 0, .inl (gI g, 12, .inl (V 0))), (X 1, .inl (gI g, 480, .inl (V 1))), (X 2, .inl (gI g, 24, .inl (V 2))), (X 3, .inl (gI g, 24, .inl (V 3))), (X 4, .inl (gI g, 24, .inl (V 4))), (X 5, .inl (gI g, 192, .inl (V 5))), (X 6, .inl (gI g, 24, .inl (V 6))), (X 7, .inl (gI g, 24, .inl (V 7))), (X 8, .inl (gI g, 24, .inl (V 8)))] H := hP
  have hD : va_D A [(h, .inr (3, [.int (th), .int (nI lc), .ref (X 0), .ref (X 1), .int (nI ec), .ref (X 2), .ref (X 3), .ref (X 4), .ref (X 5), .ref (X 6), .ref (X 7), .ref (X 8)])), (X 0, .inl (gI g, 12, .inl (V 0))), (X 1, .inl (gI g, 480, .inl (V 1))), (X 2, .inl (gI g, 24, .inl (V 2))), (X 3, .inl (gI g, 24, .inl (V 3))), (X 4, .inl (gI g, 24, .inl (V 4))), (X 5, .inl (gI g, 192, .inl (V 5))), (X 6, .inl (gI g, 24, .inl (V 6))), (X 7, .inl (gI g, 24, .inl (V 7))), (X 8, .inl (gI g, 24, .inl (V 8)))] := hD
  refine lv_aload_n hx hb dX3_signAt_0 rfl (lv_at hl 0 rfl) ?_
  refine lv_iconst (v := 0) hx hb dX3_signAt_1 (by decide +kernel) ?_
  refine va_put (D := gD g) (ci := 3) (v := .int (0)) (ty := .int) (C := RX3) (T := TX3) (N := 12) hx hb hts iX3 tyX3 tyX3_ok nmX3 hown hK.1 hP hD hS 0 rfl rfl 0 (by decide) f37 (fun _ h9 => h9) rfl (by decide +kernel) rfl rfl (Nat.le_of_ble_eq_true rfl) dX3_signAt_2 (fun H locs hP hD hS => ?_)
  have hP : va_P (gD g) vwCl [(h, .inr (3, [.int (0), .int (nI lc), .ref (X 0), .ref (X 1), .int (nI ec), .ref (X 2), .ref (X 3), .ref (X 4), .ref (X 5), .ref (X 6), .ref (X 7), .ref (X 8)])), (X 0, .inl (gI g, 12, .inl (V 0))), (X 1, .inl (gI g, 480, .inl (V 1))), (X 2, .inl (gI g, 24, .inl (V 2))), (X 3, .inl (gI g, 24, .inl (V 3))), (X 4, .inl (gI g, 24, .inl (V 4))), (X 5, .inl (gI g, 192, .inl (V 5))), (X 6, .inl (gI g, 24, .inl (V 6))), (X 7, .inl (gI g, 24, .inl (V 7))), (X 8, .inl (gI g, 24, .inl (V 8)))] H := hP
  have hD : va_D A [(h, .inr (3, [.int (0), .int (nI lc), .ref (X 0), .ref (X 1), .int (nI ec), .ref (X 2), .ref (X 3), .ref (X 4), .ref (X 5), .ref (X 6), .ref (X 7), .ref (X 8)])), (X 0, .inl (gI g, 12, .inl (V 0))), (X 1, .inl (gI g, 480, .inl (V 1))), (X 2, .inl (gI g, 24, .inl (V 2))), (X 3, .inl (gI g, 24, .inl (V 3))), (X 4, .inl (gI g, 24, .inl (V 4))), (X 5, .inl (gI g, 192, .inl (V 5))), (X 6, .inl (gI g, 24, .inl (V 6))), (X 7, .inl (gI g, 24, .inl (V 7))), (X 8, .inl (gI g, 24, .inl (V 8)))] := hD
  refine lv_aload_n hx hb dX3_signAt_5 rfl (lv_at hl 0 rfl) ?_
  refine lv_iload_n hx hb dX3_signAt_6 rfl (lv_at hl 1 rfl) ?_
  refine lv_iload_n hx hb dX3_signAt_7 rfl (lv_at hl 2 rfl) ?_
  refine p_V (As := [.int (nI k), .int (nI j)]) (rest := []) S (c_X3_isPlace l g h X V 0 lc ec NN hlc hec hNN k hk (nI j)) (cwV 2 hts gX3_signAt_X3_isPlace rfl rfl rfl (by decide +kernel) ⟨Nat.le_of_ble_eq_true rfl, Nat.le_of_ble_eq_true rfl⟩) hK (va_recv hK.1 hP (ci := 3) (q0 := 0) rfl rfl) (hP) rfl hl.1 rfl (Nat.le_of_ble_eq_true rfl) dX3_signAt_8 ⟨Nat.le_of_ble_eq_true rfl, Nat.le_of_ble_eq_true rfl⟩ ?_
  refine br_eqB (tgt := 23) hx hb dX3_signAt_11 (by decide) (fun c11 => ?_) (fun c11 => ?_)
  · exact absurd c11 (by rw [hgj]; decide)
  · refine lv_aload_n hx hb dX3_signAt_14 rfl (lv_at hl 0 rfl) ?_
    refine lv_iload_n hx hb dX3_signAt_15 rfl (lv_at hl 1 rfl) ?_
    refine lv_iload_n hx hb dX3_signAt_16 rfl (lv_at hl 2 rfl) ?_
    refine p_V (As := [.int (nI k), .int (nI j)]) (rest := []) S (c_X3_at l g h X V 0 lc ec (k) (j) (by omega) (by omega)) (cwV 2 hts gX3_signAt_X3_at rfl rfl rfl (by decide +kernel) ⟨Nat.le_of_ble_eq_true rfl, Nat.le_of_ble_eq_true rfl⟩) hK (va_recv hK.1 hP (ci := 3) (q0 := 0) rfl rfl) (hP) rfl hl.1 rfl (Nat.le_of_ble_eq_true rfl) dX3_signAt_17 ⟨Nat.le_of_ble_eq_true rfl, Nat.le_of_ble_eq_true rfl⟩ ?_
    refine lv_goto (tgt := 28) hx hb dX3_signAt_20 (by decide) ?_
    exact hret _ _ _ _ hP hS dX3_signAt_28

set_option maxHeartbeats 4000000 in
set_option maxRecDepth 100000 in
/-- signAt_1 -/
theorem c_X3_signAt_1 (l : Launch) (g : gT) (h : Nat) (X : Nat → Nat) (V : Nat → Nat → Int32) (th : Int32) (lc ec : Nat) (hlc : lc ≤ 12) (hec : ec ≤ 24) (x : Int32) (hxb : inB x lc = false) (y : Int32) : wM g l yX3_signAt wsX3_signAt { frames := 3, cells := 0, slots := 0, locals := 65 } [.ref (h), .int (x), .int (y)] (mdW g h X V th lc ec) (some (.int (0))) (mdW g h X V 1 lc ec) := by
  refine wr_ofI (cc := cX3_signAt) (maxL := 3) (by decide) rfl (Nat.le_of_ble_eq_true rfl) ?_
  intro p e s m args below meth c H0 ls A Q hx hb hml hts hown hK hP hD hS hl hret
  have hl : lv_has ls 3 [(0, .ref (h)), (1, .int (x)), (2, .int (y))] := hl
  have S : CallFix p m c cX3_signAt 3 s args wsX3_signAt RX3 := ⟨hx, hb, hml, hown, hts⟩
  have iX3 : ∀ w ∈ u_ws RX3 TX3 12, w ∈ wsX3_signAt := by decide +kernel
  have f37 := hts (.fieldLink RX3 37 "LetterSealsModel" "thrown" "I") (by decide +kernel)
  obtain ⟨H, eH⟩ : ∃ H : Heap, H = H0 := ⟨_, rfl⟩
  rw [← eH] at hP ⊢
  have hS : va_S A H0 H [] := by rw [eH]; exact hS
  have hP : va_P (gD g) vwCl [(h, .inr (3, [.int (th), .int (nI lc), .ref (X 0), .ref (X 1), .int (nI ec), .ref (X 2), .ref (X 3), .ref (X 4), .ref (X 5), .ref (X 6), .ref (X 7), .ref (X 8)])), (X 0, .inl (gI g, 12, .inl (V 0))), (X 1, .inl (gI g, 480, .inl (V 1))), (X 2, .inl (gI g, 24, .inl (V 2))), (X 3, .inl (gI g, 24, .inl (V 3))), (X 4, .inl (gI g, 24, .inl (V 4))), (X 5, .inl (gI g, 192, .inl (V 5))), (X 6, .inl (gI g, 24, .inl (V 6))), (X 7, .inl (gI g, 24, .inl (V 7))), (X 8, .inl (gI g, 24, .inl (V 8)))] H := hP
  have hD : va_D A [(h, .inr (3, [.int (th), .int (nI lc), .ref (X 0), .ref (X 1), .int (nI ec), .ref (X 2), .ref (X 3), .ref (X 4), .ref (X 5), .ref (X 6), .ref (X 7), .ref (X 8)])), (X 0, .inl (gI g, 12, .inl (V 0))), (X 1, .inl (gI g, 480, .inl (V 1))), (X 2, .inl (gI g, 24, .inl (V 2))), (X 3, .inl (gI g, 24, .inl (V 3))), (X 4, .inl (gI g, 24, .inl (V 4))), (X 5, .inl (gI g, 192, .inl (V 5))), (X 6, .inl (gI g, 24, .inl (V 6))), (X 7, .inl (gI g, 24, .inl (V 7))), (X 8, .inl (gI g, 24, .inl (V 8)))] := hD
  refine lv_aload_n hx hb dX3_signAt_0 rfl (lv_at hl 0 rfl) ?_
  refine lv_iconst (v := 0) hx hb dX3_signAt_1 (by decide +kernel) ?_
  refine va_put (D := gD g) (ci := 3) (v := .int (0)) (ty := .int) (C := RX3) (T := TX3) (N := 12) hx hb hts iX3 tyX3 tyX3_ok nmX3 hown hK.1 hP hD hS 0 rfl rfl 0 (by decide) f37 (fun _ h9 => h9) rfl (by decide +kernel) rfl rfl (Nat.le_of_ble_eq_true rfl) dX3_signAt_2 (fun H locs hP hD hS => ?_)
  have hP : va_P (gD g) vwCl [(h, .inr (3, [.int (0), .int (nI lc), .ref (X 0), .ref (X 1), .int (nI ec), .ref (X 2), .ref (X 3), .ref (X 4), .ref (X 5), .ref (X 6), .ref (X 7), .ref (X 8)])), (X 0, .inl (gI g, 12, .inl (V 0))), (X 1, .inl (gI g, 480, .inl (V 1))), (X 2, .inl (gI g, 24, .inl (V 2))), (X 3, .inl (gI g, 24, .inl (V 3))), (X 4, .inl (gI g, 24, .inl (V 4))), (X 5, .inl (gI g, 192, .inl (V 5))), (X 6, .inl (gI g, 24, .inl (V 6))), (X 7, .inl (gI g, 24, .inl (V 7))), (X 8, .inl (gI g, 24, .inl (V 8)))] H := hP
  have hD : va_D A [(h, .inr (3, [.int (0), .int (nI lc), .ref (X 0), .ref (X 1), .int (nI ec), .ref (X 2), .ref (X 3), .ref (X 4), .ref (X 5), .ref (X 6), .ref (X 7), .ref (X 8)])), (X 0, .inl (gI g, 12, .inl (V 0))), (X 1, .inl (gI g, 480, .inl (V 1))), (X 2, .inl (gI g, 24, .inl (V 2))), (X 3, .inl (gI g, 24, .inl (V 3))), (X 4, .inl (gI g, 24, .inl (V 4))), (X 5, .inl (gI g, 192, .inl (V 5))), (X 6, .inl (gI g, 24, .inl (V 6))), (X 7, .inl (gI g, 24, .inl (V 7))), (X 8, .inl (gI g, 24, .inl (V 8)))] := hD
  refine lv_aload_n hx hb dX3_signAt_5 rfl (lv_at hl 0 rfl) ?_
  refine lv_iload_n hx hb dX3_signAt_6 rfl (lv_at hl 1 rfl) ?_
  refine lv_iload_n hx hb dX3_signAt_7 rfl (lv_at hl 2 rfl) ?_
  refine p_V (As := [.int (x), .int (y)]) (rest := []) S (c_X3_isPlace0 l g h X V 0 lc ec (x) (y) hlc hec hxb) (cwV 2 hts gX3_signAt_X3_isPlace rfl rfl rfl (by decide +kernel) ⟨Nat.le_of_ble_eq_true rfl, Nat.le_of_ble_eq_true rfl⟩) hK (va_recv hK.1 hP (ci := 3) (q0 := 0) rfl rfl) (hP) rfl hl.1 rfl (Nat.le_of_ble_eq_true rfl) dX3_signAt_8 ⟨Nat.le_of_ble_eq_true rfl, Nat.le_of_ble_eq_true rfl⟩ ?_
  refine br_eqB (tgt := 23) hx hb dX3_signAt_11 (by decide) (fun c11 => ?_) (fun c11 => ?_)
  · refine lv_aload_n hx hb dX3_signAt_23 rfl (lv_at hl 0 rfl) ?_
    refine lv_iconst (v := 1) hx hb dX3_signAt_24 (by decide +kernel) ?_
    refine w_V (As := [.int (1)]) (rest := []) S (c_X3_no l g h X V 0 lc ec (1)) (cwV 1 hts gX3_signAt_X3_no rfl rfl rfl (by decide +kernel) ⟨Nat.le_of_ble_eq_true rfl, Nat.le_of_ble_eq_true rfl⟩) hK (va_recv hK.1 hP (ci := 3) (q0 := 0) rfl rfl) hP (hD.weaken (fun _ _ _ _ => trivial)) hS (wA_D hD [0, 1, 2, 3, 4, 5, 6, 7, 8, 9] rfl) rfl hl.1 rfl (Nat.le_of_ble_eq_true rfl) dX3_signAt_25 ⟨Nat.le_of_ble_eq_true rfl, Nat.le_of_ble_eq_true rfl⟩ (fun H locs hP1 hz1 hk1 hS => ?_)
    have hP : va_P (gD g) vwCl [(h, .inr (3, [.int (1), .int (nI lc), .ref (X 0), .ref (X 1), .int (nI ec), .ref (X 2), .ref (X 3), .ref (X 4), .ref (X 5), .ref (X 6), .ref (X 7), .ref (X 8)])), (X 0, .inl (gI g, 12, .inl (V 0))), (X 1, .inl (gI g, 480, .inl (V 1))), (X 2, .inl (gI g, 24, .inl (V 2))), (X 3, .inl (gI g, 24, .inl (V 3))), (X 4, .inl (gI g, 24, .inl (V 4))), (X 5, .inl (gI g, 192, .inl (V 5))), (X 6, .inl (gI g, 24, .inl (V 6))), (X 7, .inl (gI g, 24, .inl (V 7))), (X 8, .inl (gI g, 24, .inl (V 8)))] H := hP1
    have hD : va_D A [(h, .inr (3, [.int (1), .int (nI lc), .ref (X 0), .ref (X 1), .int (nI ec), .ref (X 2), .ref (X 3), .ref (X 4), .ref (X 5), .ref (X 6), .ref (X 7), .ref (X 8)])), (X 0, .inl (gI g, 12, .inl (V 0))), (X 1, .inl (gI g, 480, .inl (V 1))), (X 2, .inl (gI g, 24, .inl (V 2))), (X 3, .inl (gI g, 24, .inl (V 3))), (X 4, .inl (gI g, 24, .inl (V 4))), (X 5, .inl (gI g, 192, .inl (V 5))), (X 6, .inl (gI g, 24, .inl (V 6))), (X 7, .inl (gI g, 24, .inl (V 7))), (X 8, .inl (gI g, 24, .inl (V 8)))] := D_same hD rfl
    exact hret _ _ _ _ hP hS dX3_signAt_28
  · exact absurd c11 (by decide)

set_option maxHeartbeats 4000000 in
set_option maxRecDepth 100000 in
/-- signAt_1b -/
theorem c_X3_signAt_1b (l : Launch) (g : gT) (h : Nat) (X : Nat → Nat) (V : Nat → Nat → Int32) (th : Int32) (lc ec : Nat) (NN : Nat → Nat) (hlc : lc ≤ 12) (hec : ec ≤ 24) (hNN : ∀ i, i < lc → V 0 i = nI (NN i) ∧ NN i ≤ 40) (k : Nat) (hk : k < lc) (y : Int32) (hy : inB y (NN k) = false) : wM g l yX3_signAt wsX3_signAt { frames := 3, cells := 0, slots := 0, locals := 65 } [.ref (h), .int (nI k), .int (y)] (mdW g h X V th lc ec) (some (.int (0))) (mdW g h X V 1 lc ec) := by
  refine wr_ofI (cc := cX3_signAt) (maxL := 3) (by decide) rfl (Nat.le_of_ble_eq_true rfl) ?_
  intro p e s m args below meth c H0 ls A Q hx hb hml hts hown hK hP hD hS hl hret
  have hl : lv_has ls 3 [(0, .ref (h)), (1, .int (nI k)), (2, .int (y))] := hl
  have S : CallFix p m c cX3_signAt 3 s args wsX3_signAt RX3 := ⟨hx, hb, hml, hown, hts⟩
  have hgk : inB (nI k) lc = true := inB_nI hk (by omega)
  have hVn := (hNN k hk).1
  have hn := (hNN k hk).2
  have iX3 : ∀ w ∈ u_ws RX3 TX3 12, w ∈ wsX3_signAt := by decide +kernel
  have f37 := hts (.fieldLink RX3 37 "LetterSealsModel" "thrown" "I") (by decide +kernel)
  obtain ⟨H, eH⟩ : ∃ H : Heap, H = H0 := ⟨_, rfl⟩
  rw [← eH] at hP ⊢
  have hS : va_S A H0 H [] := by rw [eH]; exact hS
  have hP : va_P (gD g) vwCl [(h, .inr (3, [.int (th), .int (nI lc), .ref (X 0), .ref (X 1), .int (nI ec), .ref (X 2), .ref (X 3), .ref (X 4), .ref (X 5), .ref (X 6), .ref (X 7), .ref (X 8)])), (X 0, .inl (gI g, 12, .inl (V 0))), (X 1, .inl (gI g, 480, .inl (V 1))), (X 2, .inl (gI g, 24, .inl (V 2))), (X 3, .inl (gI g, 24, .inl (V 3))), (X 4, .inl (gI g, 24, .inl (V 4))), (X 5, .inl (gI g, 192, .inl (V 5))), (X 6, .inl (gI g, 24, .inl (V 6))), (X 7, .inl (gI g, 24, .inl (V 7))), (X 8, .inl (gI g, 24, .inl (V 8)))] H := hP
  have hD : va_D A [(h, .inr (3, [.int (th), .int (nI lc), .ref (X 0), .ref (X 1), .int (nI ec), .ref (X 2), .ref (X 3), .ref (X 4), .ref (X 5), .ref (X 6), .ref (X 7), .ref (X 8)])), (X 0, .inl (gI g, 12, .inl (V 0))), (X 1, .inl (gI g, 480, .inl (V 1))), (X 2, .inl (gI g, 24, .inl (V 2))), (X 3, .inl (gI g, 24, .inl (V 3))), (X 4, .inl (gI g, 24, .inl (V 4))), (X 5, .inl (gI g, 192, .inl (V 5))), (X 6, .inl (gI g, 24, .inl (V 6))), (X 7, .inl (gI g, 24, .inl (V 7))), (X 8, .inl (gI g, 24, .inl (V 8)))] := hD
  refine lv_aload_n hx hb dX3_signAt_0 rfl (lv_at hl 0 rfl) ?_
  refine lv_iconst (v := 0) hx hb dX3_signAt_1 (by decide +kernel) ?_
  refine va_put (D := gD g) (ci := 3) (v := .int (0)) (ty := .int) (C := RX3) (T := TX3) (N := 12) hx hb hts iX3 tyX3 tyX3_ok nmX3 hown hK.1 hP hD hS 0 rfl rfl 0 (by decide) f37 (fun _ h9 => h9) rfl (by decide +kernel) rfl rfl (Nat.le_of_ble_eq_true rfl) dX3_signAt_2 (fun H locs hP hD hS => ?_)
  have hP : va_P (gD g) vwCl [(h, .inr (3, [.int (0), .int (nI lc), .ref (X 0), .ref (X 1), .int (nI ec), .ref (X 2), .ref (X 3), .ref (X 4), .ref (X 5), .ref (X 6), .ref (X 7), .ref (X 8)])), (X 0, .inl (gI g, 12, .inl (V 0))), (X 1, .inl (gI g, 480, .inl (V 1))), (X 2, .inl (gI g, 24, .inl (V 2))), (X 3, .inl (gI g, 24, .inl (V 3))), (X 4, .inl (gI g, 24, .inl (V 4))), (X 5, .inl (gI g, 192, .inl (V 5))), (X 6, .inl (gI g, 24, .inl (V 6))), (X 7, .inl (gI g, 24, .inl (V 7))), (X 8, .inl (gI g, 24, .inl (V 8)))] H := hP
  have hD : va_D A [(h, .inr (3, [.int (0), .int (nI lc), .ref (X 0), .ref (X 1), .int (nI ec), .ref (X 2), .ref (X 3), .ref (X 4), .ref (X 5), .ref (X 6), .ref (X 7), .ref (X 8)])), (X 0, .inl (gI g, 12, .inl (V 0))), (X 1, .inl (gI g, 480, .inl (V 1))), (X 2, .inl (gI g, 24, .inl (V 2))), (X 3, .inl (gI g, 24, .inl (V 3))), (X 4, .inl (gI g, 24, .inl (V 4))), (X 5, .inl (gI g, 192, .inl (V 5))), (X 6, .inl (gI g, 24, .inl (V 6))), (X 7, .inl (gI g, 24, .inl (V 7))), (X 8, .inl (gI g, 24, .inl (V 8)))] := hD
  refine lv_aload_n hx hb dX3_signAt_5 rfl (lv_at hl 0 rfl) ?_
  refine lv_iload_n hx hb dX3_signAt_6 rfl (lv_at hl 1 rfl) ?_
  refine lv_iload_n hx hb dX3_signAt_7 rfl (lv_at hl 2 rfl) ?_
  refine p_V (As := [.int (nI k), .int (y)]) (rest := []) S (c_X3_isPlace l g h X V 0 lc ec NN hlc hec hNN k hk (y)) (cwV 2 hts gX3_signAt_X3_isPlace rfl rfl rfl (by decide +kernel) ⟨Nat.le_of_ble_eq_true rfl, Nat.le_of_ble_eq_true rfl⟩) hK (va_recv hK.1 hP (ci := 3) (q0 := 0) rfl rfl) (hP) rfl hl.1 rfl (Nat.le_of_ble_eq_true rfl) dX3_signAt_8 ⟨Nat.le_of_ble_eq_true rfl, Nat.le_of_ble_eq_true rfl⟩ ?_
  refine br_eqB (tgt := 23) hx hb dX3_signAt_11 (by decide) (fun c11 => ?_) (fun c11 => ?_)
  · refine lv_aload_n hx hb dX3_signAt_23 rfl (lv_at hl 0 rfl) ?_
    refine lv_iconst (v := 1) hx hb dX3_signAt_24 (by decide +kernel) ?_
    refine w_V (As := [.int (1)]) (rest := []) S (c_X3_no l g h X V 0 lc ec (1)) (cwV 1 hts gX3_signAt_X3_no rfl rfl rfl (by decide +kernel) ⟨Nat.le_of_ble_eq_true rfl, Nat.le_of_ble_eq_true rfl⟩) hK (va_recv hK.1 hP (ci := 3) (q0 := 0) rfl rfl) hP (hD.weaken (fun _ _ _ _ => trivial)) hS (wA_D hD [0, 1, 2, 3, 4, 5, 6, 7, 8, 9] rfl) rfl hl.1 rfl (Nat.le_of_ble_eq_true rfl) dX3_signAt_25 ⟨Nat.le_of_ble_eq_true rfl, Nat.le_of_ble_eq_true rfl⟩ (fun H locs hP1 hz1 hk1 hS => ?_)
    have hP : va_P (gD g) vwCl [(h, .inr (3, [.int (1), .int (nI lc), .ref (X 0), .ref (X 1), .int (nI ec), .ref (X 2), .ref (X 3), .ref (X 4), .ref (X 5), .ref (X 6), .ref (X 7), .ref (X 8)])), (X 0, .inl (gI g, 12, .inl (V 0))), (X 1, .inl (gI g, 480, .inl (V 1))), (X 2, .inl (gI g, 24, .inl (V 2))), (X 3, .inl (gI g, 24, .inl (V 3))), (X 4, .inl (gI g, 24, .inl (V 4))), (X 5, .inl (gI g, 192, .inl (V 5))), (X 6, .inl (gI g, 24, .inl (V 6))), (X 7, .inl (gI g, 24, .inl (V 7))), (X 8, .inl (gI g, 24, .inl (V 8)))] H := hP1
    have hD : va_D A [(h, .inr (3, [.int (1), .int (nI lc), .ref (X 0), .ref (X 1), .int (nI ec), .ref (X 2), .ref (X 3), .ref (X 4), .ref (X 5), .ref (X 6), .ref (X 7), .ref (X 8)])), (X 0, .inl (gI g, 12, .inl (V 0))), (X 1, .inl (gI g, 480, .inl (V 1))), (X 2, .inl (gI g, 24, .inl (V 2))), (X 3, .inl (gI g, 24, .inl (V 3))), (X 4, .inl (gI g, 24, .inl (V 4))), (X 5, .inl (gI g, 192, .inl (V 5))), (X 6, .inl (gI g, 24, .inl (V 6))), (X 7, .inl (gI g, 24, .inl (V 7))), (X 8, .inl (gI g, 24, .inl (V 8)))] := D_same hD rfl
    exact hret _ _ _ _ hP hS dX3_signAt_28
  · exact absurd c11 (by rw [hy]; decide)

set_option maxHeartbeats 4000000 in
set_option maxRecDepth 100000 in
/-- sumOf -/
theorem c_X3_sumOf (l : Launch) (g : gT) (h : Nat) (X : Nat → Nat) (V : Nat → Nat → Int32) (th : Int32) (lc ec : Nat) (NN : Nat → Nat) (hlc : lc ≤ 12) (hec : ec ≤ 24) (hNN : ∀ i, i < lc → V 0 i = nI (NN i) ∧ NN i ≤ 40) (k : Nat) (hk : k < lc) (o t : Nat) (ht : 1 ≤ t) (ho : o + t ≤ NN k) : wM g l yX3_sumOf wsX3_sumOf { frames := 2, cells := 0, slots := 0, locals := 47 } [.ref (h), .int (nI k), .int (nI o), .int (nI t)] (mdW g h X V th lc ec) (some (.int (wnF (rwV V k) o t))) (mdW g h X V 0 lc ec) := by
  refine wr_ofI (cc := cX3_sumOf) (maxL := 4) (by decide) rfl (Nat.le_of_ble_eq_true rfl) ?_
  intro p e s m args below meth c H0 ls A Q hx hb hml hts hown hK hP hD hS hl hret
  have hl : lv_has ls 4 [(0, .ref (h)), (1, .int (nI k)), (2, .int (nI o)), (3, .int (nI t))] := hl
  have S : CallFix p m c cX3_sumOf 4 s args wsX3_sumOf RX3 := ⟨hx, hb, hml, hown, hts⟩
  have hgk : inB (nI k) lc = true := inB_nI hk (by omega)
  have hVn := (hNN k hk).1
  have hn := (hNN k hk).2
  have iX3 : ∀ w ∈ u_ws RX3 TX3 12, w ∈ wsX3_sumOf := by decide +kernel
  have f9 := hts (.fieldLink RX3 9 "LetterSealsModel" "many" "[I") (by decide +kernel)
  have f37 := hts (.fieldLink RX3 37 "LetterSealsModel" "thrown" "I") (by decide +kernel)
  obtain ⟨H, eH⟩ : ∃ H : Heap, H = H0 := ⟨_, rfl⟩
  rw [← eH] at hP ⊢
  have hS : va_S A H0 H [] := by rw [eH]; exact hS
  have hP : va_P (gD g) vwCl [(h, .inr (3, [.int (th), .int (nI lc), .ref (X 0), .ref (X 1), .int (nI ec), .ref (X 2), .ref (X 3), .ref (X 4), .ref (X 5), .ref (X 6), .ref (X 7), .ref (X 8)])), (X 0, .inl (gI g, 12, .inl (V 0))), (X 1, .inl (gI g, 480, .inl (V 1))), (X 2, .inl (gI g, 24, .inl (V 2))), (X 3, .inl (gI g, 24, .inl (V 3))), (X 4, .inl (gI g, 24, .inl (V 4))), (X 5, .inl (gI g, 192, .inl (V 5))), (X 6, .inl (gI g, 24, .inl (V 6))), (X 7, .inl (gI g, 24, .inl (V 7))), (X 8, .inl (gI g, 24, .inl (V 8)))] H := hP
  have hD : va_D A [(h, .inr (3, [.int (th), .int (nI lc), .ref (X 0), .ref (X 1), .int (nI ec), .ref (X 2), .ref (X 3), .ref (X 4), .ref (X 5), .ref (X 6), .ref (X 7), .ref (X 8)])), (X 0, .inl (gI g, 12, .inl (V 0))), (X 1, .inl (gI g, 480, .inl (V 1))), (X 2, .inl (gI g, 24, .inl (V 2))), (X 3, .inl (gI g, 24, .inl (V 3))), (X 4, .inl (gI g, 24, .inl (V 4))), (X 5, .inl (gI g, 192, .inl (V 5))), (X 6, .inl (gI g, 24, .inl (V 6))), (X 7, .inl (gI g, 24, .inl (V 7))), (X 8, .inl (gI g, 24, .inl (V 8)))] := hD
  refine lv_aload_n hx hb dX3_sumOf_0 rfl (lv_at hl 0 rfl) ?_
  refine lv_iconst (v := 0) hx hb dX3_sumOf_1 (by decide +kernel) ?_
  refine va_put (D := gD g) (ci := 3) (v := .int (0)) (ty := .int) (C := RX3) (T := TX3) (N := 12) hx hb hts iX3 tyX3 tyX3_ok nmX3 hown hK.1 hP hD hS 0 rfl rfl 0 (by decide) f37 (fun _ h9 => h9) rfl (by decide +kernel) rfl rfl (Nat.le_of_ble_eq_true rfl) dX3_sumOf_2 (fun H locs hP hD hS => ?_)
  have hP : va_P (gD g) vwCl [(h, .inr (3, [.int (0), .int (nI lc), .ref (X 0), .ref (X 1), .int (nI ec), .ref (X 2), .ref (X 3), .ref (X 4), .ref (X 5), .ref (X 6), .ref (X 7), .ref (X 8)])), (X 0, .inl (gI g, 12, .inl (V 0))), (X 1, .inl (gI g, 480, .inl (V 1))), (X 2, .inl (gI g, 24, .inl (V 2))), (X 3, .inl (gI g, 24, .inl (V 3))), (X 4, .inl (gI g, 24, .inl (V 4))), (X 5, .inl (gI g, 192, .inl (V 5))), (X 6, .inl (gI g, 24, .inl (V 6))), (X 7, .inl (gI g, 24, .inl (V 7))), (X 8, .inl (gI g, 24, .inl (V 8)))] H := hP
  have hD : va_D A [(h, .inr (3, [.int (0), .int (nI lc), .ref (X 0), .ref (X 1), .int (nI ec), .ref (X 2), .ref (X 3), .ref (X 4), .ref (X 5), .ref (X 6), .ref (X 7), .ref (X 8)])), (X 0, .inl (gI g, 12, .inl (V 0))), (X 1, .inl (gI g, 480, .inl (V 1))), (X 2, .inl (gI g, 24, .inl (V 2))), (X 3, .inl (gI g, 24, .inl (V 3))), (X 4, .inl (gI g, 24, .inl (V 4))), (X 5, .inl (gI g, 192, .inl (V 5))), (X 6, .inl (gI g, 24, .inl (V 6))), (X 7, .inl (gI g, 24, .inl (V 7))), (X 8, .inl (gI g, 24, .inl (V 8)))] := hD
  refine lv_aload_n hx hb dX3_sumOf_5 rfl (lv_at hl 0 rfl) ?_
  refine lv_iload_n hx hb dX3_sumOf_6 rfl (lv_at hl 1 rfl) ?_
  refine p_V (As := [.int (nI k)]) (rest := []) S (c_X3_isLetter l g h X V 0 lc ec (nI k) hlc hec) (cwV 1 hts gX3_sumOf_X3_isLetter rfl rfl rfl (by decide +kernel) ⟨Nat.le_of_ble_eq_true rfl, Nat.le_of_ble_eq_true rfl⟩) hK (va_recv hK.1 hP (ci := 3) (q0 := 0) rfl rfl) (hP) rfl hl.1 rfl (Nat.le_of_ble_eq_true rfl) dX3_sumOf_7 ⟨Nat.le_of_ble_eq_true rfl, Nat.le_of_ble_eq_true rfl⟩ ?_
  refine br_neB (tgt := 19) hx hb dX3_sumOf_10 (by decide) (fun c10 => ?_) (fun c10 => ?_)
  · refine lv_iload_n hx hb dX3_sumOf_19 rfl (lv_at hl 3 rfl) ?_
    refine lv_iconst (v := 1) hx hb dX3_sumOf_20 (by decide +kernel) ?_
    refine lv_aload_n hx hb dX3_sumOf_21 rfl (lv_at hl 0 rfl) ?_
    refine va_get (D := gD g) (ci := 3) (v := .ref (X 0)) (C := RX3) (T := TX3) (N := 12) hx hb hts iX3 hown hK.1 hP 0 rfl rfl 2 (by decide) f9 (fun _ h9 => h9) rfl dX3_sumOf_22 ?_
    refine lv_iload_n hx hb dX3_sumOf_25 rfl (lv_at hl 1 rfl) ?_
    refine ld_I (k := k) (n := 12) (f := V 0) hx hb hK.1 hP 1 rfl (by omega) (by omega) dX3_sumOf_26 ?_
    refine lv_toI (z := nI (NN k)) (hVn) ?_
    refine p_S (As := [.int (nI t), .int (1), .int (nI (NN k))]) (rest := []) S (c_X3_isFrom l g (nI t) (1) (nI (NN k))) (cwS 3 hts gX3_sumOf_X3_isFrom rfl rfl rfl (by decide +kernel) ⟨Nat.le_of_ble_eq_true rfl, Nat.le_of_ble_eq_true rfl⟩) hK (trivial) rfl hl.1 rfl (Nat.le_of_ble_eq_true rfl) dX3_sumOf_27 ⟨Nat.le_of_ble_eq_true rfl, Nat.le_of_ble_eq_true rfl⟩ ?_
    refine br_eqB (tgt := 59) hx hb dX3_sumOf_30 (by decide) (fun c30 => ?_) (fun c30 => ?_)
    · exact absurd c30 (by rw [rng_1 ht (by omega) (by omega)]; decide)
    · refine lv_iload_n hx hb dX3_sumOf_33 rfl (lv_at hl 2 rfl) ?_
      refine lv_iconst (v := 0) hx hb dX3_sumOf_34 (by decide +kernel) ?_
      refine lv_aload_n hx hb dX3_sumOf_35 rfl (lv_at hl 0 rfl) ?_
      refine va_get (D := gD g) (ci := 3) (v := .ref (X 0)) (C := RX3) (T := TX3) (N := 12) hx hb hts iX3 hown hK.1 hP 0 rfl rfl 2 (by decide) f9 (fun _ h9 => h9) rfl dX3_sumOf_36 ?_
      refine lv_iload_n hx hb dX3_sumOf_39 rfl (lv_at hl 1 rfl) ?_
      refine ld_I (k := k) (n := 12) (f := V 0) hx hb hK.1 hP 1 rfl (by omega) (by omega) dX3_sumOf_40 ?_
      refine lv_toI (z := nI (NN k)) (hVn) ?_
      refine lv_iload_n hx hb dX3_sumOf_41 rfl (lv_at hl 3 rfl) ?_
      refine lv_isub hx hb dX3_sumOf_42 ?_
      refine lv_toI (z := nI (NN k) - nI t) (rfl) ?_
      refine p_S (As := [.int (nI o), .int (0), .int (nI (NN k) - nI t)]) (rest := []) S (c_X3_isFrom l g (nI o) (0) (nI (NN k) - nI t)) (cwS 3 hts gX3_sumOf_X3_isFrom rfl rfl rfl (by decide +kernel) ⟨Nat.le_of_ble_eq_true rfl, Nat.le_of_ble_eq_true rfl⟩) hK (trivial) rfl hl.1 rfl (Nat.le_of_ble_eq_true rfl) dX3_sumOf_43 ⟨Nat.le_of_ble_eq_true rfl, Nat.le_of_ble_eq_true rfl⟩ ?_
      refine br_eqB (tgt := 59) hx hb dX3_sumOf_46 (by decide) (fun c46 => ?_) (fun c46 => ?_)
      · exact absurd c46 (by rw [rng_2 ho (by omega)]; decide)
      · refine lv_aload_n hx hb dX3_sumOf_49 rfl (lv_at hl 0 rfl) ?_
        refine lv_iload_n hx hb dX3_sumOf_50 rfl (lv_at hl 1 rfl) ?_
        refine lv_iload_n hx hb dX3_sumOf_51 rfl (lv_at hl 2 rfl) ?_
        refine lv_iload_n hx hb dX3_sumOf_52 rfl (lv_at hl 3 rfl) ?_
        refine p_V (As := [.int (nI k), .int (nI o), .int (nI t)]) (rest := []) S (c_X3_window l g h X V 0 lc ec NN hlc hec hNN k hk o t (by omega)) (cwV 3 hts gX3_sumOf_X3_window rfl rfl rfl (by decide +kernel) ⟨Nat.le_of_ble_eq_true rfl, Nat.le_of_ble_eq_true rfl⟩) hK (va_recv hK.1 hP (ci := 3) (q0 := 0) rfl rfl) (hP) rfl hl.1 rfl (Nat.le_of_ble_eq_true rfl) dX3_sumOf_53 ⟨Nat.le_of_ble_eq_true rfl, Nat.le_of_ble_eq_true rfl⟩ ?_
        refine lv_goto (tgt := 64) hx hb dX3_sumOf_56 (by decide) ?_
        exact hret _ _ _ _ hP hS dX3_sumOf_64
  · exact absurd c10 (by rw [hgk]; decide)

set_option maxHeartbeats 4000000 in
set_option maxRecDepth 100000 in
/-- sumOf_1 -/
theorem c_X3_sumOf_1 (l : Launch) (g : gT) (h : Nat) (X : Nat → Nat) (V : Nat → Nat → Int32) (th : Int32) (lc ec : Nat) (hlc : lc ≤ 12) (hec : ec ≤ 24) (x : Int32) (hxb : inB x lc = false) (y z : Int32) : wM g l yX3_sumOf wsX3_sumOf { frames := 2, cells := 0, slots := 0, locals := 47 } [.ref (h), .int (x), .int (y), .int (z)] (mdW g h X V th lc ec) (some (.int (0))) (mdW g h X V 1 lc ec) := by
  refine wr_ofI (cc := cX3_sumOf) (maxL := 4) (by decide) rfl (Nat.le_of_ble_eq_true rfl) ?_
  intro p e s m args below meth c H0 ls A Q hx hb hml hts hown hK hP hD hS hl hret
  have hl : lv_has ls 4 [(0, .ref (h)), (1, .int (x)), (2, .int (y)), (3, .int (z))] := hl
  have S : CallFix p m c cX3_sumOf 4 s args wsX3_sumOf RX3 := ⟨hx, hb, hml, hown, hts⟩
  have iX3 : ∀ w ∈ u_ws RX3 TX3 12, w ∈ wsX3_sumOf := by decide +kernel
  have f37 := hts (.fieldLink RX3 37 "LetterSealsModel" "thrown" "I") (by decide +kernel)
  obtain ⟨H, eH⟩ : ∃ H : Heap, H = H0 := ⟨_, rfl⟩
  rw [← eH] at hP ⊢
  have hS : va_S A H0 H [] := by rw [eH]; exact hS
  have hP : va_P (gD g) vwCl [(h, .inr (3, [.int (th), .int (nI lc), .ref (X 0), .ref (X 1), .int (nI ec), .ref (X 2), .ref (X 3), .ref (X 4), .ref (X 5), .ref (X 6), .ref (X 7), .ref (X 8)])), (X 0, .inl (gI g, 12, .inl (V 0))), (X 1, .inl (gI g, 480, .inl (V 1))), (X 2, .inl (gI g, 24, .inl (V 2))), (X 3, .inl (gI g, 24, .inl (V 3))), (X 4, .inl (gI g, 24, .inl (V 4))), (X 5, .inl (gI g, 192, .inl (V 5))), (X 6, .inl (gI g, 24, .inl (V 6))), (X 7, .inl (gI g, 24, .inl (V 7))), (X 8, .inl (gI g, 24, .inl (V 8)))] H := hP
  have hD : va_D A [(h, .inr (3, [.int (th), .int (nI lc), .ref (X 0), .ref (X 1), .int (nI ec), .ref (X 2), .ref (X 3), .ref (X 4), .ref (X 5), .ref (X 6), .ref (X 7), .ref (X 8)])), (X 0, .inl (gI g, 12, .inl (V 0))), (X 1, .inl (gI g, 480, .inl (V 1))), (X 2, .inl (gI g, 24, .inl (V 2))), (X 3, .inl (gI g, 24, .inl (V 3))), (X 4, .inl (gI g, 24, .inl (V 4))), (X 5, .inl (gI g, 192, .inl (V 5))), (X 6, .inl (gI g, 24, .inl (V 6))), (X 7, .inl (gI g, 24, .inl (V 7))), (X 8, .inl (gI g, 24, .inl (V 8)))] := hD
  refine lv_aload_n hx hb dX3_sumOf_0 rfl (lv_at hl 0 rfl) ?_
  refine lv_iconst (v := 0) hx hb dX3_sumOf_1 (by decide +kernel) ?_
  refine va_put (D := gD g) (ci := 3) (v := .int (0)) (ty := .int) (C := RX3) (T := TX3) (N := 12) hx hb hts iX3 tyX3 tyX3_ok nmX3 hown hK.1 hP hD hS 0 rfl rfl 0 (by decide) f37 (fun _ h9 => h9) rfl (by decide +kernel) rfl rfl (Nat.le_of_ble_eq_true rfl) dX3_sumOf_2 (fun H locs hP hD hS => ?_)
  have hP : va_P (gD g) vwCl [(h, .inr (3, [.int (0), .int (nI lc), .ref (X 0), .ref (X 1), .int (nI ec), .ref (X 2), .ref (X 3), .ref (X 4), .ref (X 5), .ref (X 6), .ref (X 7), .ref (X 8)])), (X 0, .inl (gI g, 12, .inl (V 0))), (X 1, .inl (gI g, 480, .inl (V 1))), (X 2, .inl (gI g, 24, .inl (V 2))), (X 3, .inl (gI g, 24, .inl (V 3))), (X 4, .inl (gI g, 24, .inl (V 4))), (X 5, .inl (gI g, 192, .inl (V 5))), (X 6, .inl (gI g, 24, .inl (V 6))), (X 7, .inl (gI g, 24, .inl (V 7))), (X 8, .inl (gI g, 24, .inl (V 8)))] H := hP
  have hD : va_D A [(h, .inr (3, [.int (0), .int (nI lc), .ref (X 0), .ref (X 1), .int (nI ec), .ref (X 2), .ref (X 3), .ref (X 4), .ref (X 5), .ref (X 6), .ref (X 7), .ref (X 8)])), (X 0, .inl (gI g, 12, .inl (V 0))), (X 1, .inl (gI g, 480, .inl (V 1))), (X 2, .inl (gI g, 24, .inl (V 2))), (X 3, .inl (gI g, 24, .inl (V 3))), (X 4, .inl (gI g, 24, .inl (V 4))), (X 5, .inl (gI g, 192, .inl (V 5))), (X 6, .inl (gI g, 24, .inl (V 6))), (X 7, .inl (gI g, 24, .inl (V 7))), (X 8, .inl (gI g, 24, .inl (V 8)))] := hD
  refine lv_aload_n hx hb dX3_sumOf_5 rfl (lv_at hl 0 rfl) ?_
  refine lv_iload_n hx hb dX3_sumOf_6 rfl (lv_at hl 1 rfl) ?_
  refine p_V (As := [.int (x)]) (rest := []) S (c_X3_isLetter l g h X V 0 lc ec (x) hlc hec) (cwV 1 hts gX3_sumOf_X3_isLetter rfl rfl rfl (by decide +kernel) ⟨Nat.le_of_ble_eq_true rfl, Nat.le_of_ble_eq_true rfl⟩) hK (va_recv hK.1 hP (ci := 3) (q0 := 0) rfl rfl) (hP) rfl hl.1 rfl (Nat.le_of_ble_eq_true rfl) dX3_sumOf_7 ⟨Nat.le_of_ble_eq_true rfl, Nat.le_of_ble_eq_true rfl⟩ ?_
  refine br_neB (tgt := 19) hx hb dX3_sumOf_10 (by decide) (fun c10 => ?_) (fun c10 => ?_)
  · exact absurd c10 (by rw [hxb]; decide)
  · refine lv_aload_n hx hb dX3_sumOf_13 rfl (lv_at hl 0 rfl) ?_
    refine lv_iconst (v := 1) hx hb dX3_sumOf_14 (by decide +kernel) ?_
    refine w_V (As := [.int (1)]) (rest := []) S (c_X3_no l g h X V 0 lc ec (1)) (cwV 1 hts gX3_sumOf_X3_no rfl rfl rfl (by decide +kernel) ⟨Nat.le_of_ble_eq_true rfl, Nat.le_of_ble_eq_true rfl⟩) hK (va_recv hK.1 hP (ci := 3) (q0 := 0) rfl rfl) hP (hD.weaken (fun _ _ _ _ => trivial)) hS (wA_D hD [0, 1, 2, 3, 4, 5, 6, 7, 8, 9] rfl) rfl hl.1 rfl (Nat.le_of_ble_eq_true rfl) dX3_sumOf_15 ⟨Nat.le_of_ble_eq_true rfl, Nat.le_of_ble_eq_true rfl⟩ (fun H locs hP1 hz1 hk1 hS => ?_)
    have hP : va_P (gD g) vwCl [(h, .inr (3, [.int (1), .int (nI lc), .ref (X 0), .ref (X 1), .int (nI ec), .ref (X 2), .ref (X 3), .ref (X 4), .ref (X 5), .ref (X 6), .ref (X 7), .ref (X 8)])), (X 0, .inl (gI g, 12, .inl (V 0))), (X 1, .inl (gI g, 480, .inl (V 1))), (X 2, .inl (gI g, 24, .inl (V 2))), (X 3, .inl (gI g, 24, .inl (V 3))), (X 4, .inl (gI g, 24, .inl (V 4))), (X 5, .inl (gI g, 192, .inl (V 5))), (X 6, .inl (gI g, 24, .inl (V 6))), (X 7, .inl (gI g, 24, .inl (V 7))), (X 8, .inl (gI g, 24, .inl (V 8)))] H := hP1
    have hD : va_D A [(h, .inr (3, [.int (1), .int (nI lc), .ref (X 0), .ref (X 1), .int (nI ec), .ref (X 2), .ref (X 3), .ref (X 4), .ref (X 5), .ref (X 6), .ref (X 7), .ref (X 8)])), (X 0, .inl (gI g, 12, .inl (V 0))), (X 1, .inl (gI g, 480, .inl (V 1))), (X 2, .inl (gI g, 24, .inl (V 2))), (X 3, .inl (gI g, 24, .inl (V 3))), (X 4, .inl (gI g, 24, .inl (V 4))), (X 5, .inl (gI g, 192, .inl (V 5))), (X 6, .inl (gI g, 24, .inl (V 6))), (X 7, .inl (gI g, 24, .inl (V 7))), (X 8, .inl (gI g, 24, .inl (V 8)))] := D_same hD rfl
    exact hret _ _ _ _ hP hS dX3_sumOf_18

set_option maxHeartbeats 4000000 in
set_option maxRecDepth 100000 in
/-- sumOf_2 -/
theorem c_X3_sumOf_2 (l : Launch) (g : gT) (h : Nat) (X : Nat → Nat) (V : Nat → Nat → Int32) (th : Int32) (lc ec : Nat) (NN : Nat → Nat) (hlc : lc ≤ 12) (hec : ec ≤ 24) (hNN : ∀ i, i < lc → V 0 i = nI (NN i) ∧ NN i ≤ 40) (k : Nat) (hk : k < lc) (x y : Int32) (hb2 : ((decide (1 ≤ y) && decide (y ≤ nI (NN k))) && (decide (0 ≤ x) && decide (x ≤ nI (NN k) - y))) = false) : wM g l yX3_sumOf wsX3_sumOf { frames := 2, cells := 0, slots := 0, locals := 47 } [.ref (h), .int (nI k), .int (x), .int (y)] (mdW g h X V th lc ec) (some (.int (0))) (mdW g h X V 2 lc ec) := by
  refine wr_ofI (cc := cX3_sumOf) (maxL := 4) (by decide) rfl (Nat.le_of_ble_eq_true rfl) ?_
  intro p e s m args below meth c H0 ls A Q hx hb hml hts hown hK hP hD hS hl hret
  have hl : lv_has ls 4 [(0, .ref (h)), (1, .int (nI k)), (2, .int (x)), (3, .int (y))] := hl
  have S : CallFix p m c cX3_sumOf 4 s args wsX3_sumOf RX3 := ⟨hx, hb, hml, hown, hts⟩
  have hgk : inB (nI k) lc = true := inB_nI hk (by omega)
  have hVn := (hNN k hk).1
  have hn := (hNN k hk).2
  have iX3 : ∀ w ∈ u_ws RX3 TX3 12, w ∈ wsX3_sumOf := by decide +kernel
  have f9 := hts (.fieldLink RX3 9 "LetterSealsModel" "many" "[I") (by decide +kernel)
  have f37 := hts (.fieldLink RX3 37 "LetterSealsModel" "thrown" "I") (by decide +kernel)
  obtain ⟨H, eH⟩ : ∃ H : Heap, H = H0 := ⟨_, rfl⟩
  rw [← eH] at hP ⊢
  have hS : va_S A H0 H [] := by rw [eH]; exact hS
  have hP : va_P (gD g) vwCl [(h, .inr (3, [.int (th), .int (nI lc), .ref (X 0), .ref (X 1), .int (nI ec), .ref (X 2), .ref (X 3), .ref (X 4), .ref (X 5), .ref (X 6), .ref (X 7), .ref (X 8)])), (X 0, .inl (gI g, 12, .inl (V 0))), (X 1, .inl (gI g, 480, .inl (V 1))), (X 2, .inl (gI g, 24, .inl (V 2))), (X 3, .inl (gI g, 24, .inl (V 3))), (X 4, .inl (gI g, 24, .inl (V 4))), (X 5, .inl (gI g, 192, .inl (V 5))), (X 6, .inl (gI g, 24, .inl (V 6))), (X 7, .inl (gI g, 24, .inl (V 7))), (X 8, .inl (gI g, 24, .inl (V 8)))] H := hP
  have hD : va_D A [(h, .inr (3, [.int (th), .int (nI lc), .ref (X 0), .ref (X 1), .int (nI ec), .ref (X 2), .ref (X 3), .ref (X 4), .ref (X 5), .ref (X 6), .ref (X 7), .ref (X 8)])), (X 0, .inl (gI g, 12, .inl (V 0))), (X 1, .inl (gI g, 480, .inl (V 1))), (X 2, .inl (gI g, 24, .inl (V 2))), (X 3, .inl (gI g, 24, .inl (V 3))), (X 4, .inl (gI g, 24, .inl (V 4))), (X 5, .inl (gI g, 192, .inl (V 5))), (X 6, .inl (gI g, 24, .inl (V 6))), (X 7, .inl (gI g, 24, .inl (V 7))), (X 8, .inl (gI g, 24, .inl (V 8)))] := hD
  refine lv_aload_n hx hb dX3_sumOf_0 rfl (lv_at hl 0 rfl) ?_
  refine lv_iconst (v := 0) hx hb dX3_sumOf_1 (by decide +kernel) ?_
  refine va_put (D := gD g) (ci := 3) (v := .int (0)) (ty := .int) (C := RX3) (T := TX3) (N := 12) hx hb hts iX3 tyX3 tyX3_ok nmX3 hown hK.1 hP hD hS 0 rfl rfl 0 (by decide) f37 (fun _ h9 => h9) rfl (by decide +kernel) rfl rfl (Nat.le_of_ble_eq_true rfl) dX3_sumOf_2 (fun H locs hP hD hS => ?_)
  have hP : va_P (gD g) vwCl [(h, .inr (3, [.int (0), .int (nI lc), .ref (X 0), .ref (X 1), .int (nI ec), .ref (X 2), .ref (X 3), .ref (X 4), .ref (X 5), .ref (X 6), .ref (X 7), .ref (X 8)])), (X 0, .inl (gI g, 12, .inl (V 0))), (X 1, .inl (gI g, 480, .inl (V 1))), (X 2, .inl (gI g, 24, .inl (V 2))), (X 3, .inl (gI g, 24, .inl (V 3))), (X 4, .inl (gI g, 24, .inl (V 4))), (X 5, .inl (gI g, 192, .inl (V 5))), (X 6, .inl (gI g, 24, .inl (V 6))), (X 7, .inl (gI g, 24, .inl (V 7))), (X 8, .inl (gI g, 24, .inl (V 8)))] H := hP
  have hD : va_D A [(h, .inr (3, [.int (0), .int (nI lc), .ref (X 0), .ref (X 1), .int (nI ec), .ref (X 2), .ref (X 3), .ref (X 4), .ref (X 5), .ref (X 6), .ref (X 7), .ref (X 8)])), (X 0, .inl (gI g, 12, .inl (V 0))), (X 1, .inl (gI g, 480, .inl (V 1))), (X 2, .inl (gI g, 24, .inl (V 2))), (X 3, .inl (gI g, 24, .inl (V 3))), (X 4, .inl (gI g, 24, .inl (V 4))), (X 5, .inl (gI g, 192, .inl (V 5))), (X 6, .inl (gI g, 24, .inl (V 6))), (X 7, .inl (gI g, 24, .inl (V 7))), (X 8, .inl (gI g, 24, .inl (V 8)))] := hD
  refine lv_aload_n hx hb dX3_sumOf_5 rfl (lv_at hl 0 rfl) ?_
  refine lv_iload_n hx hb dX3_sumOf_6 rfl (lv_at hl 1 rfl) ?_
  refine p_V (As := [.int (nI k)]) (rest := []) S (c_X3_isLetter l g h X V 0 lc ec (nI k) hlc hec) (cwV 1 hts gX3_sumOf_X3_isLetter rfl rfl rfl (by decide +kernel) ⟨Nat.le_of_ble_eq_true rfl, Nat.le_of_ble_eq_true rfl⟩) hK (va_recv hK.1 hP (ci := 3) (q0 := 0) rfl rfl) (hP) rfl hl.1 rfl (Nat.le_of_ble_eq_true rfl) dX3_sumOf_7 ⟨Nat.le_of_ble_eq_true rfl, Nat.le_of_ble_eq_true rfl⟩ ?_
  refine br_neB (tgt := 19) hx hb dX3_sumOf_10 (by decide) (fun c10 => ?_) (fun c10 => ?_)
  · refine lv_iload_n hx hb dX3_sumOf_19 rfl (lv_at hl 3 rfl) ?_
    refine lv_iconst (v := 1) hx hb dX3_sumOf_20 (by decide +kernel) ?_
    refine lv_aload_n hx hb dX3_sumOf_21 rfl (lv_at hl 0 rfl) ?_
    refine va_get (D := gD g) (ci := 3) (v := .ref (X 0)) (C := RX3) (T := TX3) (N := 12) hx hb hts iX3 hown hK.1 hP 0 rfl rfl 2 (by decide) f9 (fun _ h9 => h9) rfl dX3_sumOf_22 ?_
    refine lv_iload_n hx hb dX3_sumOf_25 rfl (lv_at hl 1 rfl) ?_
    refine ld_I (k := k) (n := 12) (f := V 0) hx hb hK.1 hP 1 rfl (by omega) (by omega) dX3_sumOf_26 ?_
    refine lv_toI (z := nI (NN k)) (hVn) ?_
    refine p_S (As := [.int (y), .int (1), .int (nI (NN k))]) (rest := []) S (c_X3_isFrom l g (y) (1) (nI (NN k))) (cwS 3 hts gX3_sumOf_X3_isFrom rfl rfl rfl (by decide +kernel) ⟨Nat.le_of_ble_eq_true rfl, Nat.le_of_ble_eq_true rfl⟩) hK (trivial) rfl hl.1 rfl (Nat.le_of_ble_eq_true rfl) dX3_sumOf_27 ⟨Nat.le_of_ble_eq_true rfl, Nat.le_of_ble_eq_true rfl⟩ ?_
    refine br_eqB (tgt := 59) hx hb dX3_sumOf_30 (by decide) (fun c30 => ?_) (fun c30 => ?_)
    · refine lv_aload_n hx hb dX3_sumOf_59 rfl (lv_at hl 0 rfl) ?_
      refine lv_iconst (v := 2) hx hb dX3_sumOf_60 (by decide +kernel) ?_
      refine w_V (As := [.int (2)]) (rest := []) S (c_X3_no l g h X V 0 lc ec (2)) (cwV 1 hts gX3_sumOf_X3_no rfl rfl rfl (by decide +kernel) ⟨Nat.le_of_ble_eq_true rfl, Nat.le_of_ble_eq_true rfl⟩) hK (va_recv hK.1 hP (ci := 3) (q0 := 0) rfl rfl) hP (hD.weaken (fun _ _ _ _ => trivial)) hS (wA_D hD [0, 1, 2, 3, 4, 5, 6, 7, 8, 9] rfl) rfl hl.1 rfl (Nat.le_of_ble_eq_true rfl) dX3_sumOf_61 ⟨Nat.le_of_ble_eq_true rfl, Nat.le_of_ble_eq_true rfl⟩ (fun H locs hP1 hz1 hk1 hS => ?_)
      have hP : va_P (gD g) vwCl [(h, .inr (3, [.int (2), .int (nI lc), .ref (X 0), .ref (X 1), .int (nI ec), .ref (X 2), .ref (X 3), .ref (X 4), .ref (X 5), .ref (X 6), .ref (X 7), .ref (X 8)])), (X 0, .inl (gI g, 12, .inl (V 0))), (X 1, .inl (gI g, 480, .inl (V 1))), (X 2, .inl (gI g, 24, .inl (V 2))), (X 3, .inl (gI g, 24, .inl (V 3))), (X 4, .inl (gI g, 24, .inl (V 4))), (X 5, .inl (gI g, 192, .inl (V 5))), (X 6, .inl (gI g, 24, .inl (V 6))), (X 7, .inl (gI g, 24, .inl (V 7))), (X 8, .inl (gI g, 24, .inl (V 8)))] H := hP1
      have hD : va_D A [(h, .inr (3, [.int (2), .int (nI lc), .ref (X 0), .ref (X 1), .int (nI ec), .ref (X 2), .ref (X 3), .ref (X 4), .ref (X 5), .ref (X 6), .ref (X 7), .ref (X 8)])), (X 0, .inl (gI g, 12, .inl (V 0))), (X 1, .inl (gI g, 480, .inl (V 1))), (X 2, .inl (gI g, 24, .inl (V 2))), (X 3, .inl (gI g, 24, .inl (V 3))), (X 4, .inl (gI g, 24, .inl (V 4))), (X 5, .inl (gI g, 192, .inl (V 5))), (X 6, .inl (gI g, 24, .inl (V 6))), (X 7, .inl (gI g, 24, .inl (V 7))), (X 8, .inl (gI g, 24, .inl (V 8)))] := D_same hD rfl
      exact hret _ _ _ _ hP hS dX3_sumOf_64
    · refine lv_iload_n hx hb dX3_sumOf_33 rfl (lv_at hl 2 rfl) ?_
      refine lv_iconst (v := 0) hx hb dX3_sumOf_34 (by decide +kernel) ?_
      refine lv_aload_n hx hb dX3_sumOf_35 rfl (lv_at hl 0 rfl) ?_
      refine va_get (D := gD g) (ci := 3) (v := .ref (X 0)) (C := RX3) (T := TX3) (N := 12) hx hb hts iX3 hown hK.1 hP 0 rfl rfl 2 (by decide) f9 (fun _ h9 => h9) rfl dX3_sumOf_36 ?_
      refine lv_iload_n hx hb dX3_sumOf_39 rfl (lv_at hl 1 rfl) ?_
      refine ld_I (k := k) (n := 12) (f := V 0) hx hb hK.1 hP 1 rfl (by omega) (by omega) dX3_sumOf_40 ?_
      refine lv_toI (z := nI (NN k)) (hVn) ?_
      refine lv_iload_n hx hb dX3_sumOf_41 rfl (lv_at hl 3 rfl) ?_
      refine lv_isub hx hb dX3_sumOf_42 ?_
      refine lv_toI (z := nI (NN k) - y) (rfl) ?_
      refine p_S (As := [.int (x), .int (0), .int (nI (NN k) - y)]) (rest := []) S (c_X3_isFrom l g (x) (0) (nI (NN k) - y)) (cwS 3 hts gX3_sumOf_X3_isFrom rfl rfl rfl (by decide +kernel) ⟨Nat.le_of_ble_eq_true rfl, Nat.le_of_ble_eq_true rfl⟩) hK (trivial) rfl hl.1 rfl (Nat.le_of_ble_eq_true rfl) dX3_sumOf_43 ⟨Nat.le_of_ble_eq_true rfl, Nat.le_of_ble_eq_true rfl⟩ ?_
      refine br_eqB (tgt := 59) hx hb dX3_sumOf_46 (by decide) (fun c46 => ?_) (fun c46 => ?_)
      · refine lv_aload_n hx hb dX3_sumOf_59 rfl (lv_at hl 0 rfl) ?_
        refine lv_iconst (v := 2) hx hb dX3_sumOf_60 (by decide +kernel) ?_
        refine w_V (As := [.int (2)]) (rest := []) S (c_X3_no l g h X V 0 lc ec (2)) (cwV 1 hts gX3_sumOf_X3_no rfl rfl rfl (by decide +kernel) ⟨Nat.le_of_ble_eq_true rfl, Nat.le_of_ble_eq_true rfl⟩) hK (va_recv hK.1 hP (ci := 3) (q0 := 0) rfl rfl) hP (hD.weaken (fun _ _ _ _ => trivial)) hS (wA_D hD [0, 1, 2, 3, 4, 5, 6, 7, 8, 9] rfl) rfl hl.1 rfl (Nat.le_of_ble_eq_true rfl) dX3_sumOf_61 ⟨Nat.le_of_ble_eq_true rfl, Nat.le_of_ble_eq_true rfl⟩ (fun H locs hP1 hz1 hk1 hS => ?_)
        have hP : va_P (gD g) vwCl [(h, .inr (3, [.int (2), .int (nI lc), .ref (X 0), .ref (X 1), .int (nI ec), .ref (X 2), .ref (X 3), .ref (X 4), .ref (X 5), .ref (X 6), .ref (X 7), .ref (X 8)])), (X 0, .inl (gI g, 12, .inl (V 0))), (X 1, .inl (gI g, 480, .inl (V 1))), (X 2, .inl (gI g, 24, .inl (V 2))), (X 3, .inl (gI g, 24, .inl (V 3))), (X 4, .inl (gI g, 24, .inl (V 4))), (X 5, .inl (gI g, 192, .inl (V 5))), (X 6, .inl (gI g, 24, .inl (V 6))), (X 7, .inl (gI g, 24, .inl (V 7))), (X 8, .inl (gI g, 24, .inl (V 8)))] H := hP1
        have hD : va_D A [(h, .inr (3, [.int (2), .int (nI lc), .ref (X 0), .ref (X 1), .int (nI ec), .ref (X 2), .ref (X 3), .ref (X 4), .ref (X 5), .ref (X 6), .ref (X 7), .ref (X 8)])), (X 0, .inl (gI g, 12, .inl (V 0))), (X 1, .inl (gI g, 480, .inl (V 1))), (X 2, .inl (gI g, 24, .inl (V 2))), (X 3, .inl (gI g, 24, .inl (V 3))), (X 4, .inl (gI g, 24, .inl (V 4))), (X 5, .inl (gI g, 192, .inl (V 5))), (X 6, .inl (gI g, 24, .inl (V 6))), (X 7, .inl (gI g, 24, .inl (V 7))), (X 8, .inl (gI g, 24, .inl (V 8)))] := D_same hD rfl
        exact hret _ _ _ _ hP hS dX3_sumOf_64
      · exact absurd hb2 (by rw [c30, c46]; decide)
  · exact absurd c10 (by rw [hgk]; decide)

set_option maxHeartbeats 4000000 in
set_option maxRecDepth 100000 in
/-- pairsOf0 -/
theorem c_X3_pairsOf0 (l : Launch) (g : gT) (h : Nat) (X : Nat → Nat) (V : Nat → Nat → Int32) (th : Int32) (lc ec : Nat) (NN : Nat → Nat) (hlc : lc ≤ 12) (hec : ec ≤ 24) (hNN : ∀ i, i < lc → V 0 i = nI (NN i) ∧ NN i ≤ 40) (k : Nat) (hk : k < lc) (t : Nat) (ht : 1 ≤ t) (ht2 : t ≤ 40) : wM g l yX3_pairsOf wsX3_pairsOf { frames := 3, cells := 0, slots := 0, locals := 73 } [.ref (h), .int (nI k), .int (nI t), .int (0)] (mdW g h X V th lc ec) (some (.int (prM (paP (rwV V k) t false) (NN k + 1 - t)))) (mdW g h X V 0 lc ec) := by
  refine wr_ofI (cc := cX3_pairsOf) (maxL := 4) (by decide) rfl (Nat.le_of_ble_eq_true rfl) ?_
  intro p e s m args below meth c H0 ls A Q hx hb hml hts hown hK hP hD hS hl hret
  have hl : lv_has ls 4 [(0, .ref (h)), (1, .int (nI k)), (2, .int (nI t)), (3, .int (0))] := hl
  have S : CallFix p m c cX3_pairsOf 4 s args wsX3_pairsOf RX3 := ⟨hx, hb, hml, hown, hts⟩
  have hgk : inB (nI k) lc = true := inB_nI hk (by omega)
  have hVn := (hNN k hk).1
  have hn := (hNN k hk).2
  have iX3 : ∀ w ∈ u_ws RX3 TX3 12, w ∈ wsX3_pairsOf := by decide +kernel
  have f37 := hts (.fieldLink RX3 37 "LetterSealsModel" "thrown" "I") (by decide +kernel)
  obtain ⟨H, eH⟩ : ∃ H : Heap, H = H0 := ⟨_, rfl⟩
  rw [← eH] at hP ⊢
  have hS : va_S A H0 H [] := by rw [eH]; exact hS
  have hP : va_P (gD g) vwCl [(h, .inr (3, [.int (th), .int (nI lc), .ref (X 0), .ref (X 1), .int (nI ec), .ref (X 2), .ref (X 3), .ref (X 4), .ref (X 5), .ref (X 6), .ref (X 7), .ref (X 8)])), (X 0, .inl (gI g, 12, .inl (V 0))), (X 1, .inl (gI g, 480, .inl (V 1))), (X 2, .inl (gI g, 24, .inl (V 2))), (X 3, .inl (gI g, 24, .inl (V 3))), (X 4, .inl (gI g, 24, .inl (V 4))), (X 5, .inl (gI g, 192, .inl (V 5))), (X 6, .inl (gI g, 24, .inl (V 6))), (X 7, .inl (gI g, 24, .inl (V 7))), (X 8, .inl (gI g, 24, .inl (V 8)))] H := hP
  have hD : va_D A [(h, .inr (3, [.int (th), .int (nI lc), .ref (X 0), .ref (X 1), .int (nI ec), .ref (X 2), .ref (X 3), .ref (X 4), .ref (X 5), .ref (X 6), .ref (X 7), .ref (X 8)])), (X 0, .inl (gI g, 12, .inl (V 0))), (X 1, .inl (gI g, 480, .inl (V 1))), (X 2, .inl (gI g, 24, .inl (V 2))), (X 3, .inl (gI g, 24, .inl (V 3))), (X 4, .inl (gI g, 24, .inl (V 4))), (X 5, .inl (gI g, 192, .inl (V 5))), (X 6, .inl (gI g, 24, .inl (V 6))), (X 7, .inl (gI g, 24, .inl (V 7))), (X 8, .inl (gI g, 24, .inl (V 8)))] := hD
  refine lv_aload_n hx hb dX3_pairsOf_0 rfl (lv_at hl 0 rfl) ?_
  refine lv_iconst (v := 0) hx hb dX3_pairsOf_1 (by decide +kernel) ?_
  refine va_put (D := gD g) (ci := 3) (v := .int (0)) (ty := .int) (C := RX3) (T := TX3) (N := 12) hx hb hts iX3 tyX3 tyX3_ok nmX3 hown hK.1 hP hD hS 0 rfl rfl 0 (by decide) f37 (fun _ h9 => h9) rfl (by decide +kernel) rfl rfl (Nat.le_of_ble_eq_true rfl) dX3_pairsOf_2 (fun H locs hP hD hS => ?_)
  have hP : va_P (gD g) vwCl [(h, .inr (3, [.int (0), .int (nI lc), .ref (X 0), .ref (X 1), .int (nI ec), .ref (X 2), .ref (X 3), .ref (X 4), .ref (X 5), .ref (X 6), .ref (X 7), .ref (X 8)])), (X 0, .inl (gI g, 12, .inl (V 0))), (X 1, .inl (gI g, 480, .inl (V 1))), (X 2, .inl (gI g, 24, .inl (V 2))), (X 3, .inl (gI g, 24, .inl (V 3))), (X 4, .inl (gI g, 24, .inl (V 4))), (X 5, .inl (gI g, 192, .inl (V 5))), (X 6, .inl (gI g, 24, .inl (V 6))), (X 7, .inl (gI g, 24, .inl (V 7))), (X 8, .inl (gI g, 24, .inl (V 8)))] H := hP
  have hD : va_D A [(h, .inr (3, [.int (0), .int (nI lc), .ref (X 0), .ref (X 1), .int (nI ec), .ref (X 2), .ref (X 3), .ref (X 4), .ref (X 5), .ref (X 6), .ref (X 7), .ref (X 8)])), (X 0, .inl (gI g, 12, .inl (V 0))), (X 1, .inl (gI g, 480, .inl (V 1))), (X 2, .inl (gI g, 24, .inl (V 2))), (X 3, .inl (gI g, 24, .inl (V 3))), (X 4, .inl (gI g, 24, .inl (V 4))), (X 5, .inl (gI g, 192, .inl (V 5))), (X 6, .inl (gI g, 24, .inl (V 6))), (X 7, .inl (gI g, 24, .inl (V 7))), (X 8, .inl (gI g, 24, .inl (V 8)))] := hD
  refine lv_aload_n hx hb dX3_pairsOf_5 rfl (lv_at hl 0 rfl) ?_
  refine lv_iload_n hx hb dX3_pairsOf_6 rfl (lv_at hl 1 rfl) ?_
  refine p_V (As := [.int (nI k)]) (rest := []) S (c_X3_isLetter l g h X V 0 lc ec (nI k) hlc hec) (cwV 1 hts gX3_pairsOf_X3_isLetter rfl rfl rfl (by decide +kernel) ⟨Nat.le_of_ble_eq_true rfl, Nat.le_of_ble_eq_true rfl⟩) hK (va_recv hK.1 hP (ci := 3) (q0 := 0) rfl rfl) (hP) rfl hl.1 rfl (Nat.le_of_ble_eq_true rfl) dX3_pairsOf_7 ⟨Nat.le_of_ble_eq_true rfl, Nat.le_of_ble_eq_true rfl⟩ ?_
  refine br_neB (tgt := 19) hx hb dX3_pairsOf_10 (by decide) (fun c10 => ?_) (fun c10 => ?_)
  · refine lv_iload_n hx hb dX3_pairsOf_19 rfl (lv_at hl 2 rfl) ?_
    refine lv_iconst (v := 1) hx hb dX3_pairsOf_20 (by decide +kernel) ?_
    refine lv_bipush (v := 40) hx hb dX3_pairsOf_21 (by decide +kernel) ?_
    refine p_S (As := [.int (nI t), .int (1), .int (40)]) (rest := []) S (c_X3_isFrom l g (nI t) (1) (40)) (cwS 3 hts gX3_pairsOf_X3_isFrom rfl rfl rfl (by decide +kernel) ⟨Nat.le_of_ble_eq_true rfl, Nat.le_of_ble_eq_true rfl⟩) hK (trivial) rfl hl.1 rfl (Nat.le_of_ble_eq_true rfl) dX3_pairsOf_23 ⟨Nat.le_of_ble_eq_true rfl, Nat.le_of_ble_eq_true rfl⟩ ?_
    refine br_eqB (tgt := 39) hx hb dX3_pairsOf_26 (by decide) (fun c26 => ?_) (fun c26 => ?_)
    · exact absurd c26 (by rw [rng_40 ht ht2]; decide)
    · refine lv_aload_n hx hb dX3_pairsOf_29 rfl (lv_at hl 0 rfl) ?_
      refine lv_iload_n hx hb dX3_pairsOf_30 rfl (lv_at hl 1 rfl) ?_
      refine lv_iload_n hx hb dX3_pairsOf_31 rfl (lv_at hl 2 rfl) ?_
      refine lv_iload_n hx hb dX3_pairsOf_32 rfl (lv_at hl 3 rfl) ?_
      refine p_V (As := [.int (nI k), .int (nI t), .int (0)]) (rest := []) S (c_X3_pairs0 l g h X V 0 lc ec NN hlc hec hNN k hk t ht ht2) (cwV 3 hts gX3_pairsOf_X3_pairs rfl rfl rfl (by decide +kernel) ⟨Nat.le_of_ble_eq_true rfl, Nat.le_of_ble_eq_true rfl⟩) hK (va_recv hK.1 hP (ci := 3) (q0 := 0) rfl rfl) (hP) rfl hl.1 rfl (Nat.le_of_ble_eq_true rfl) dX3_pairsOf_33 ⟨Nat.le_of_ble_eq_true rfl, Nat.le_of_ble_eq_true rfl⟩ ?_
      refine lv_goto (tgt := 44) hx hb dX3_pairsOf_36 (by decide) ?_
      exact hret _ _ _ _ hP hS dX3_pairsOf_44
  · exact absurd c10 (by rw [hgk]; decide)

set_option maxHeartbeats 4000000 in
set_option maxRecDepth 100000 in
/-- pairsOf0_1 -/
theorem c_X3_pairsOf0_1 (l : Launch) (g : gT) (h : Nat) (X : Nat → Nat) (V : Nat → Nat → Int32) (th : Int32) (lc ec : Nat) (hlc : lc ≤ 12) (hec : ec ≤ 24) (x : Int32) (hxb : inB x lc = false) (y : Int32) : wM g l yX3_pairsOf wsX3_pairsOf { frames := 3, cells := 0, slots := 0, locals := 73 } [.ref (h), .int (x), .int (y), .int (0)] (mdW g h X V th lc ec) (some (.int (0))) (mdW g h X V 1 lc ec) := by
  refine wr_ofI (cc := cX3_pairsOf) (maxL := 4) (by decide) rfl (Nat.le_of_ble_eq_true rfl) ?_
  intro p e s m args below meth c H0 ls A Q hx hb hml hts hown hK hP hD hS hl hret
  have hl : lv_has ls 4 [(0, .ref (h)), (1, .int (x)), (2, .int (y)), (3, .int (0))] := hl
  have S : CallFix p m c cX3_pairsOf 4 s args wsX3_pairsOf RX3 := ⟨hx, hb, hml, hown, hts⟩
  have iX3 : ∀ w ∈ u_ws RX3 TX3 12, w ∈ wsX3_pairsOf := by decide +kernel
  have f37 := hts (.fieldLink RX3 37 "LetterSealsModel" "thrown" "I") (by decide +kernel)
  obtain ⟨H, eH⟩ : ∃ H : Heap, H = H0 := ⟨_, rfl⟩
  rw [← eH] at hP ⊢
  have hS : va_S A H0 H [] := by rw [eH]; exact hS
  have hP : va_P (gD g) vwCl [(h, .inr (3, [.int (th), .int (nI lc), .ref (X 0), .ref (X 1), .int (nI ec), .ref (X 2), .ref (X 3), .ref (X 4), .ref (X 5), .ref (X 6), .ref (X 7), .ref (X 8)])), (X 0, .inl (gI g, 12, .inl (V 0))), (X 1, .inl (gI g, 480, .inl (V 1))), (X 2, .inl (gI g, 24, .inl (V 2))), (X 3, .inl (gI g, 24, .inl (V 3))), (X 4, .inl (gI g, 24, .inl (V 4))), (X 5, .inl (gI g, 192, .inl (V 5))), (X 6, .inl (gI g, 24, .inl (V 6))), (X 7, .inl (gI g, 24, .inl (V 7))), (X 8, .inl (gI g, 24, .inl (V 8)))] H := hP
  have hD : va_D A [(h, .inr (3, [.int (th), .int (nI lc), .ref (X 0), .ref (X 1), .int (nI ec), .ref (X 2), .ref (X 3), .ref (X 4), .ref (X 5), .ref (X 6), .ref (X 7), .ref (X 8)])), (X 0, .inl (gI g, 12, .inl (V 0))), (X 1, .inl (gI g, 480, .inl (V 1))), (X 2, .inl (gI g, 24, .inl (V 2))), (X 3, .inl (gI g, 24, .inl (V 3))), (X 4, .inl (gI g, 24, .inl (V 4))), (X 5, .inl (gI g, 192, .inl (V 5))), (X 6, .inl (gI g, 24, .inl (V 6))), (X 7, .inl (gI g, 24, .inl (V 7))), (X 8, .inl (gI g, 24, .inl (V 8)))] := hD
  refine lv_aload_n hx hb dX3_pairsOf_0 rfl (lv_at hl 0 rfl) ?_
  refine lv_iconst (v := 0) hx hb dX3_pairsOf_1 (by decide +kernel) ?_
  refine va_put (D := gD g) (ci := 3) (v := .int (0)) (ty := .int) (C := RX3) (T := TX3) (N := 12) hx hb hts iX3 tyX3 tyX3_ok nmX3 hown hK.1 hP hD hS 0 rfl rfl 0 (by decide) f37 (fun _ h9 => h9) rfl (by decide +kernel) rfl rfl (Nat.le_of_ble_eq_true rfl) dX3_pairsOf_2 (fun H locs hP hD hS => ?_)
  have hP : va_P (gD g) vwCl [(h, .inr (3, [.int (0), .int (nI lc), .ref (X 0), .ref (X 1), .int (nI ec), .ref (X 2), .ref (X 3), .ref (X 4), .ref (X 5), .ref (X 6), .ref (X 7), .ref (X 8)])), (X 0, .inl (gI g, 12, .inl (V 0))), (X 1, .inl (gI g, 480, .inl (V 1))), (X 2, .inl (gI g, 24, .inl (V 2))), (X 3, .inl (gI g, 24, .inl (V 3))), (X 4, .inl (gI g, 24, .inl (V 4))), (X 5, .inl (gI g, 192, .inl (V 5))), (X 6, .inl (gI g, 24, .inl (V 6))), (X 7, .inl (gI g, 24, .inl (V 7))), (X 8, .inl (gI g, 24, .inl (V 8)))] H := hP
  have hD : va_D A [(h, .inr (3, [.int (0), .int (nI lc), .ref (X 0), .ref (X 1), .int (nI ec), .ref (X 2), .ref (X 3), .ref (X 4), .ref (X 5), .ref (X 6), .ref (X 7), .ref (X 8)])), (X 0, .inl (gI g, 12, .inl (V 0))), (X 1, .inl (gI g, 480, .inl (V 1))), (X 2, .inl (gI g, 24, .inl (V 2))), (X 3, .inl (gI g, 24, .inl (V 3))), (X 4, .inl (gI g, 24, .inl (V 4))), (X 5, .inl (gI g, 192, .inl (V 5))), (X 6, .inl (gI g, 24, .inl (V 6))), (X 7, .inl (gI g, 24, .inl (V 7))), (X 8, .inl (gI g, 24, .inl (V 8)))] := hD
  refine lv_aload_n hx hb dX3_pairsOf_5 rfl (lv_at hl 0 rfl) ?_
  refine lv_iload_n hx hb dX3_pairsOf_6 rfl (lv_at hl 1 rfl) ?_
  refine p_V (As := [.int (x)]) (rest := []) S (c_X3_isLetter l g h X V 0 lc ec (x) hlc hec) (cwV 1 hts gX3_pairsOf_X3_isLetter rfl rfl rfl (by decide +kernel) ⟨Nat.le_of_ble_eq_true rfl, Nat.le_of_ble_eq_true rfl⟩) hK (va_recv hK.1 hP (ci := 3) (q0 := 0) rfl rfl) (hP) rfl hl.1 rfl (Nat.le_of_ble_eq_true rfl) dX3_pairsOf_7 ⟨Nat.le_of_ble_eq_true rfl, Nat.le_of_ble_eq_true rfl⟩ ?_
  refine br_neB (tgt := 19) hx hb dX3_pairsOf_10 (by decide) (fun c10 => ?_) (fun c10 => ?_)
  · exact absurd c10 (by rw [hxb]; decide)
  · refine lv_aload_n hx hb dX3_pairsOf_13 rfl (lv_at hl 0 rfl) ?_
    refine lv_iconst (v := 1) hx hb dX3_pairsOf_14 (by decide +kernel) ?_
    refine w_V (As := [.int (1)]) (rest := []) S (c_X3_no l g h X V 0 lc ec (1)) (cwV 1 hts gX3_pairsOf_X3_no rfl rfl rfl (by decide +kernel) ⟨Nat.le_of_ble_eq_true rfl, Nat.le_of_ble_eq_true rfl⟩) hK (va_recv hK.1 hP (ci := 3) (q0 := 0) rfl rfl) hP (hD.weaken (fun _ _ _ _ => trivial)) hS (wA_D hD [0, 1, 2, 3, 4, 5, 6, 7, 8, 9] rfl) rfl hl.1 rfl (Nat.le_of_ble_eq_true rfl) dX3_pairsOf_15 ⟨Nat.le_of_ble_eq_true rfl, Nat.le_of_ble_eq_true rfl⟩ (fun H locs hP1 hz1 hk1 hS => ?_)
    have hP : va_P (gD g) vwCl [(h, .inr (3, [.int (1), .int (nI lc), .ref (X 0), .ref (X 1), .int (nI ec), .ref (X 2), .ref (X 3), .ref (X 4), .ref (X 5), .ref (X 6), .ref (X 7), .ref (X 8)])), (X 0, .inl (gI g, 12, .inl (V 0))), (X 1, .inl (gI g, 480, .inl (V 1))), (X 2, .inl (gI g, 24, .inl (V 2))), (X 3, .inl (gI g, 24, .inl (V 3))), (X 4, .inl (gI g, 24, .inl (V 4))), (X 5, .inl (gI g, 192, .inl (V 5))), (X 6, .inl (gI g, 24, .inl (V 6))), (X 7, .inl (gI g, 24, .inl (V 7))), (X 8, .inl (gI g, 24, .inl (V 8)))] H := hP1
    have hD : va_D A [(h, .inr (3, [.int (1), .int (nI lc), .ref (X 0), .ref (X 1), .int (nI ec), .ref (X 2), .ref (X 3), .ref (X 4), .ref (X 5), .ref (X 6), .ref (X 7), .ref (X 8)])), (X 0, .inl (gI g, 12, .inl (V 0))), (X 1, .inl (gI g, 480, .inl (V 1))), (X 2, .inl (gI g, 24, .inl (V 2))), (X 3, .inl (gI g, 24, .inl (V 3))), (X 4, .inl (gI g, 24, .inl (V 4))), (X 5, .inl (gI g, 192, .inl (V 5))), (X 6, .inl (gI g, 24, .inl (V 6))), (X 7, .inl (gI g, 24, .inl (V 7))), (X 8, .inl (gI g, 24, .inl (V 8)))] := D_same hD rfl
    exact hret _ _ _ _ hP hS dX3_pairsOf_18

set_option maxHeartbeats 4000000 in
set_option maxRecDepth 100000 in
/-- pairsOf0_2 -/
theorem c_X3_pairsOf0_2 (l : Launch) (g : gT) (h : Nat) (X : Nat → Nat) (V : Nat → Nat → Int32) (th : Int32) (lc ec : Nat) (NN : Nat → Nat) (hlc : lc ≤ 12) (hec : ec ≤ 24) (hNN : ∀ i, i < lc → V 0 i = nI (NN i) ∧ NN i ≤ 40) (k : Nat) (hk : k < lc) (y : Int32) (hy : (decide (1 ≤ y) && decide (y ≤ 40)) = false) : wM g l yX3_pairsOf wsX3_pairsOf { frames := 3, cells := 0, slots := 0, locals := 73 } [.ref (h), .int (nI k), .int (y), .int (0)] (mdW g h X V th lc ec) (some (.int (0))) (mdW g h X V 2 lc ec) := by
  refine wr_ofI (cc := cX3_pairsOf) (maxL := 4) (by decide) rfl (Nat.le_of_ble_eq_true rfl) ?_
  intro p e s m args below meth c H0 ls A Q hx hb hml hts hown hK hP hD hS hl hret
  have hl : lv_has ls 4 [(0, .ref (h)), (1, .int (nI k)), (2, .int (y)), (3, .int (0))] := hl
  have S : CallFix p m c cX3_pairsOf 4 s args wsX3_pairsOf RX3 := ⟨hx, hb, hml, hown, hts⟩
  have hgk : inB (nI k) lc = true := inB_nI hk (by omega)
  have hVn := (hNN k hk).1
  have hn := (hNN k hk).2
  have iX3 : ∀ w ∈ u_ws RX3 TX3 12, w ∈ wsX3_pairsOf := by decide +kernel
  have f37 := hts (.fieldLink RX3 37 "LetterSealsModel" "thrown" "I") (by decide +kernel)
  obtain ⟨H, eH⟩ : ∃ H : Heap, H = H0 := ⟨_, rfl⟩
  rw [← eH] at hP ⊢
  have hS : va_S A H0 H [] := by rw [eH]; exact hS
  have hP : va_P (gD g) vwCl [(h, .inr (3, [.int (th), .int (nI lc), .ref (X 0), .ref (X 1), .int (nI ec), .ref (X 2), .ref (X 3), .ref (X 4), .ref (X 5), .ref (X 6), .ref (X 7), .ref (X 8)])), (X 0, .inl (gI g, 12, .inl (V 0))), (X 1, .inl (gI g, 480, .inl (V 1))), (X 2, .inl (gI g, 24, .inl (V 2))), (X 3, .inl (gI g, 24, .inl (V 3))), (X 4, .inl (gI g, 24, .inl (V 4))), (X 5, .inl (gI g, 192, .inl (V 5))), (X 6, .inl (gI g, 24, .inl (V 6))), (X 7, .inl (gI g, 24, .inl (V 7))), (X 8, .inl (gI g, 24, .inl (V 8)))] H := hP
  have hD : va_D A [(h, .inr (3, [.int (th), .int (nI lc), .ref (X 0), .ref (X 1), .int (nI ec), .ref (X 2), .ref (X 3), .ref (X 4), .ref (X 5), .ref (X 6), .ref (X 7), .ref (X 8)])), (X 0, .inl (gI g, 12, .inl (V 0))), (X 1, .inl (gI g, 480, .inl (V 1))), (X 2, .inl (gI g, 24, .inl (V 2))), (X 3, .inl (gI g, 24, .inl (V 3))), (X 4, .inl (gI g, 24, .inl (V 4))), (X 5, .inl (gI g, 192, .inl (V 5))), (X 6, .inl (gI g, 24, .inl (V 6))), (X 7, .inl (gI g, 24, .inl (V 7))), (X 8, .inl (gI g, 24, .inl (V 8)))] := hD
  refine lv_aload_n hx hb dX3_pairsOf_0 rfl (lv_at hl 0 rfl) ?_
  refine lv_iconst (v := 0) hx hb dX3_pairsOf_1 (by decide +kernel) ?_
  refine va_put (D := gD g) (ci := 3) (v := .int (0)) (ty := .int) (C := RX3) (T := TX3) (N := 12) hx hb hts iX3 tyX3 tyX3_ok nmX3 hown hK.1 hP hD hS 0 rfl rfl 0 (by decide) f37 (fun _ h9 => h9) rfl (by decide +kernel) rfl rfl (Nat.le_of_ble_eq_true rfl) dX3_pairsOf_2 (fun H locs hP hD hS => ?_)
  have hP : va_P (gD g) vwCl [(h, .inr (3, [.int (0), .int (nI lc), .ref (X 0), .ref (X 1), .int (nI ec), .ref (X 2), .ref (X 3), .ref (X 4), .ref (X 5), .ref (X 6), .ref (X 7), .ref (X 8)])), (X 0, .inl (gI g, 12, .inl (V 0))), (X 1, .inl (gI g, 480, .inl (V 1))), (X 2, .inl (gI g, 24, .inl (V 2))), (X 3, .inl (gI g, 24, .inl (V 3))), (X 4, .inl (gI g, 24, .inl (V 4))), (X 5, .inl (gI g, 192, .inl (V 5))), (X 6, .inl (gI g, 24, .inl (V 6))), (X 7, .inl (gI g, 24, .inl (V 7))), (X 8, .inl (gI g, 24, .inl (V 8)))] H := hP
  have hD : va_D A [(h, .inr (3, [.int (0), .int (nI lc), .ref (X 0), .ref (X 1), .int (nI ec), .ref (X 2), .ref (X 3), .ref (X 4), .ref (X 5), .ref (X 6), .ref (X 7), .ref (X 8)])), (X 0, .inl (gI g, 12, .inl (V 0))), (X 1, .inl (gI g, 480, .inl (V 1))), (X 2, .inl (gI g, 24, .inl (V 2))), (X 3, .inl (gI g, 24, .inl (V 3))), (X 4, .inl (gI g, 24, .inl (V 4))), (X 5, .inl (gI g, 192, .inl (V 5))), (X 6, .inl (gI g, 24, .inl (V 6))), (X 7, .inl (gI g, 24, .inl (V 7))), (X 8, .inl (gI g, 24, .inl (V 8)))] := hD
  refine lv_aload_n hx hb dX3_pairsOf_5 rfl (lv_at hl 0 rfl) ?_
  refine lv_iload_n hx hb dX3_pairsOf_6 rfl (lv_at hl 1 rfl) ?_
  refine p_V (As := [.int (nI k)]) (rest := []) S (c_X3_isLetter l g h X V 0 lc ec (nI k) hlc hec) (cwV 1 hts gX3_pairsOf_X3_isLetter rfl rfl rfl (by decide +kernel) ⟨Nat.le_of_ble_eq_true rfl, Nat.le_of_ble_eq_true rfl⟩) hK (va_recv hK.1 hP (ci := 3) (q0 := 0) rfl rfl) (hP) rfl hl.1 rfl (Nat.le_of_ble_eq_true rfl) dX3_pairsOf_7 ⟨Nat.le_of_ble_eq_true rfl, Nat.le_of_ble_eq_true rfl⟩ ?_
  refine br_neB (tgt := 19) hx hb dX3_pairsOf_10 (by decide) (fun c10 => ?_) (fun c10 => ?_)
  · refine lv_iload_n hx hb dX3_pairsOf_19 rfl (lv_at hl 2 rfl) ?_
    refine lv_iconst (v := 1) hx hb dX3_pairsOf_20 (by decide +kernel) ?_
    refine lv_bipush (v := 40) hx hb dX3_pairsOf_21 (by decide +kernel) ?_
    refine p_S (As := [.int (y), .int (1), .int (40)]) (rest := []) S (c_X3_isFrom l g (y) (1) (40)) (cwS 3 hts gX3_pairsOf_X3_isFrom rfl rfl rfl (by decide +kernel) ⟨Nat.le_of_ble_eq_true rfl, Nat.le_of_ble_eq_true rfl⟩) hK (trivial) rfl hl.1 rfl (Nat.le_of_ble_eq_true rfl) dX3_pairsOf_23 ⟨Nat.le_of_ble_eq_true rfl, Nat.le_of_ble_eq_true rfl⟩ ?_
    refine br_eqB (tgt := 39) hx hb dX3_pairsOf_26 (by decide) (fun c26 => ?_) (fun c26 => ?_)
    · refine lv_aload_n hx hb dX3_pairsOf_39 rfl (lv_at hl 0 rfl) ?_
      refine lv_iconst (v := 2) hx hb dX3_pairsOf_40 (by decide +kernel) ?_
      refine w_V (As := [.int (2)]) (rest := []) S (c_X3_no l g h X V 0 lc ec (2)) (cwV 1 hts gX3_pairsOf_X3_no rfl rfl rfl (by decide +kernel) ⟨Nat.le_of_ble_eq_true rfl, Nat.le_of_ble_eq_true rfl⟩) hK (va_recv hK.1 hP (ci := 3) (q0 := 0) rfl rfl) hP (hD.weaken (fun _ _ _ _ => trivial)) hS (wA_D hD [0, 1, 2, 3, 4, 5, 6, 7, 8, 9] rfl) rfl hl.1 rfl (Nat.le_of_ble_eq_true rfl) dX3_pairsOf_41 ⟨Nat.le_of_ble_eq_true rfl, Nat.le_of_ble_eq_true rfl⟩ (fun H locs hP1 hz1 hk1 hS => ?_)
      have hP : va_P (gD g) vwCl [(h, .inr (3, [.int (2), .int (nI lc), .ref (X 0), .ref (X 1), .int (nI ec), .ref (X 2), .ref (X 3), .ref (X 4), .ref (X 5), .ref (X 6), .ref (X 7), .ref (X 8)])), (X 0, .inl (gI g, 12, .inl (V 0))), (X 1, .inl (gI g, 480, .inl (V 1))), (X 2, .inl (gI g, 24, .inl (V 2))), (X 3, .inl (gI g, 24, .inl (V 3))), (X 4, .inl (gI g, 24, .inl (V 4))), (X 5, .inl (gI g, 192, .inl (V 5))), (X 6, .inl (gI g, 24, .inl (V 6))), (X 7, .inl (gI g, 24, .inl (V 7))), (X 8, .inl (gI g, 24, .inl (V 8)))] H := hP1
      have hD : va_D A [(h, .inr (3, [.int (2), .int (nI lc), .ref (X 0), .ref (X 1), .int (nI ec), .ref (X 2), .ref (X 3), .ref (X 4), .ref (X 5), .ref (X 6), .ref (X 7), .ref (X 8)])), (X 0, .inl (gI g, 12, .inl (V 0))), (X 1, .inl (gI g, 480, .inl (V 1))), (X 2, .inl (gI g, 24, .inl (V 2))), (X 3, .inl (gI g, 24, .inl (V 3))), (X 4, .inl (gI g, 24, .inl (V 4))), (X 5, .inl (gI g, 192, .inl (V 5))), (X 6, .inl (gI g, 24, .inl (V 6))), (X 7, .inl (gI g, 24, .inl (V 7))), (X 8, .inl (gI g, 24, .inl (V 8)))] := D_same hD rfl
      exact hret _ _ _ _ hP hS dX3_pairsOf_44
    · exact absurd c26 (by rw [hy]; decide)
  · exact absurd c10 (by rw [hgk]; decide)

set_option maxHeartbeats 4000000 in
set_option maxRecDepth 100000 in
/-- sameSums -/
theorem c_X3_sameSums (l : Launch) (g : gT) (h : Nat) (X : Nat → Nat) (V : Nat → Nat → Int32) (th : Int32) (lc ec : Nat) (NN : Nat → Nat) (hlc : lc ≤ 12) (hec : ec ≤ 24) (hNN : ∀ i, i < lc → V 0 i = nI (NN i) ∧ NN i ≤ 40) (k : Nat) (hk : k < lc) (t : Nat) (ht : 1 ≤ t) (ht2 : t ≤ 40) : wM g l yX3_sameSums wsX3_sameSums { frames := 4, cells := 0, slots := 0, locals := 96 } [.ref (h), .int (nI k), .int (nI t)] (mdW g h X V th lc ec) (some (.int (prM (paP (rwV V k) t false) (NN k + 1 - t)))) (mdW g h X V 0 lc ec) := by
  refine wr_ofI (cc := cX3_sameSums) (maxL := 3) (by decide) rfl (Nat.le_of_ble_eq_true rfl) ?_
  intro p e s m args below meth c H0 ls A Q hx hb hml hts hown hK hP hD hS hl hret
  have hl : lv_has ls 3 [(0, .ref (h)), (1, .int (nI k)), (2, .int (nI t))] := hl
  have S : CallFix p m c cX3_sameSums 3 s args wsX3_sameSums RX3 := ⟨hx, hb, hml, hown, hts⟩
  obtain ⟨H, eH⟩ : ∃ H : Heap, H = H0 := ⟨_, rfl⟩
  rw [← eH] at hP ⊢
  have hS : va_S A H0 H [] := by rw [eH]; exact hS
  have hP : va_P (gD g) vwCl [(h, .inr (3, [.int (th), .int (nI lc), .ref (X 0), .ref (X 1), .int (nI ec), .ref (X 2), .ref (X 3), .ref (X 4), .ref (X 5), .ref (X 6), .ref (X 7), .ref (X 8)])), (X 0, .inl (gI g, 12, .inl (V 0))), (X 1, .inl (gI g, 480, .inl (V 1))), (X 2, .inl (gI g, 24, .inl (V 2))), (X 3, .inl (gI g, 24, .inl (V 3))), (X 4, .inl (gI g, 24, .inl (V 4))), (X 5, .inl (gI g, 192, .inl (V 5))), (X 6, .inl (gI g, 24, .inl (V 6))), (X 7, .inl (gI g, 24, .inl (V 7))), (X 8, .inl (gI g, 24, .inl (V 8)))] H := hP
  have hD : va_D A [(h, .inr (3, [.int (th), .int (nI lc), .ref (X 0), .ref (X 1), .int (nI ec), .ref (X 2), .ref (X 3), .ref (X 4), .ref (X 5), .ref (X 6), .ref (X 7), .ref (X 8)])), (X 0, .inl (gI g, 12, .inl (V 0))), (X 1, .inl (gI g, 480, .inl (V 1))), (X 2, .inl (gI g, 24, .inl (V 2))), (X 3, .inl (gI g, 24, .inl (V 3))), (X 4, .inl (gI g, 24, .inl (V 4))), (X 5, .inl (gI g, 192, .inl (V 5))), (X 6, .inl (gI g, 24, .inl (V 6))), (X 7, .inl (gI g, 24, .inl (V 7))), (X 8, .inl (gI g, 24, .inl (V 8)))] := hD
  refine lv_aload_n hx hb dX3_sameSums_0 rfl (lv_at hl 0 rfl) ?_
  refine lv_iload_n hx hb dX3_sameSums_1 rfl (lv_at hl 1 rfl) ?_
  refine lv_iload_n hx hb dX3_sameSums_2 rfl (lv_at hl 2 rfl) ?_
  refine lv_iconst (v := 0) hx hb dX3_sameSums_3 (by decide +kernel) ?_
  refine w_V (As := [.int (nI k), .int (nI t), .int (0)]) (rest := []) S (c_X3_pairsOf0 l g h X V th lc ec NN hlc hec hNN k hk t ht ht2) (cwV 3 hts gX3_sameSums_X3_pairsOf rfl rfl rfl (by decide +kernel) ⟨Nat.le_of_ble_eq_true rfl, Nat.le_of_ble_eq_true rfl⟩) hK (va_recv hK.1 hP (ci := 3) (q0 := 0) rfl rfl) hP (hD.weaken (fun _ _ _ _ => trivial)) hS (wA_D hD [0, 1, 2, 3, 4, 5, 6, 7, 8, 9] rfl) rfl hl.1 rfl (Nat.le_of_ble_eq_true rfl) dX3_sameSums_4 ⟨Nat.le_of_ble_eq_true rfl, Nat.le_of_ble_eq_true rfl⟩ (fun H locs hP1 hz1 hk1 hS => ?_)
  have hP : va_P (gD g) vwCl [(h, .inr (3, [.int (0), .int (nI lc), .ref (X 0), .ref (X 1), .int (nI ec), .ref (X 2), .ref (X 3), .ref (X 4), .ref (X 5), .ref (X 6), .ref (X 7), .ref (X 8)])), (X 0, .inl (gI g, 12, .inl (V 0))), (X 1, .inl (gI g, 480, .inl (V 1))), (X 2, .inl (gI g, 24, .inl (V 2))), (X 3, .inl (gI g, 24, .inl (V 3))), (X 4, .inl (gI g, 24, .inl (V 4))), (X 5, .inl (gI g, 192, .inl (V 5))), (X 6, .inl (gI g, 24, .inl (V 6))), (X 7, .inl (gI g, 24, .inl (V 7))), (X 8, .inl (gI g, 24, .inl (V 8)))] H := hP1
  have hD : va_D A [(h, .inr (3, [.int (0), .int (nI lc), .ref (X 0), .ref (X 1), .int (nI ec), .ref (X 2), .ref (X 3), .ref (X 4), .ref (X 5), .ref (X 6), .ref (X 7), .ref (X 8)])), (X 0, .inl (gI g, 12, .inl (V 0))), (X 1, .inl (gI g, 480, .inl (V 1))), (X 2, .inl (gI g, 24, .inl (V 2))), (X 3, .inl (gI g, 24, .inl (V 3))), (X 4, .inl (gI g, 24, .inl (V 4))), (X 5, .inl (gI g, 192, .inl (V 5))), (X 6, .inl (gI g, 24, .inl (V 6))), (X 7, .inl (gI g, 24, .inl (V 7))), (X 8, .inl (gI g, 24, .inl (V 8)))] := D_same hD rfl
  exact hret _ _ _ _ hP hS dX3_sameSums_7

set_option maxHeartbeats 4000000 in
set_option maxRecDepth 100000 in
/-- sameSums_1 -/
theorem c_X3_sameSums_1 (l : Launch) (g : gT) (h : Nat) (X : Nat → Nat) (V : Nat → Nat → Int32) (th : Int32) (lc ec : Nat) (hlc : lc ≤ 12) (hec : ec ≤ 24) (x : Int32) (hxb : inB x lc = false) (y : Int32) : wM g l yX3_sameSums wsX3_sameSums { frames := 4, cells := 0, slots := 0, locals := 96 } [.ref (h), .int (x), .int (y)] (mdW g h X V th lc ec) (some (.int (0))) (mdW g h X V 1 lc ec) := by
  refine wr_ofI (cc := cX3_sameSums) (maxL := 3) (by decide) rfl (Nat.le_of_ble_eq_true rfl) ?_
  intro p e s m args below meth c H0 ls A Q hx hb hml hts hown hK hP hD hS hl hret
  have hl : lv_has ls 3 [(0, .ref (h)), (1, .int (x)), (2, .int (y))] := hl
  have S : CallFix p m c cX3_sameSums 3 s args wsX3_sameSums RX3 := ⟨hx, hb, hml, hown, hts⟩
  obtain ⟨H, eH⟩ : ∃ H : Heap, H = H0 := ⟨_, rfl⟩
  rw [← eH] at hP ⊢
  have hS : va_S A H0 H [] := by rw [eH]; exact hS
  have hP : va_P (gD g) vwCl [(h, .inr (3, [.int (th), .int (nI lc), .ref (X 0), .ref (X 1), .int (nI ec), .ref (X 2), .ref (X 3), .ref (X 4), .ref (X 5), .ref (X 6), .ref (X 7), .ref (X 8)])), (X 0, .inl (gI g, 12, .inl (V 0))), (X 1, .inl (gI g, 480, .inl (V 1))), (X 2, .inl (gI g, 24, .inl (V 2))), (X 3, .inl (gI g, 24, .inl (V 3))), (X 4, .inl (gI g, 24, .inl (V 4))), (X 5, .inl (gI g, 192, .inl (V 5))), (X 6, .inl (gI g, 24, .inl (V 6))), (X 7, .inl (gI g, 24, .inl (V 7))), (X 8, .inl (gI g, 24, .inl (V 8)))] H := hP
  have hD : va_D A [(h, .inr (3, [.int (th), .int (nI lc), .ref (X 0), .ref (X 1), .int (nI ec), .ref (X 2), .ref (X 3), .ref (X 4), .ref (X 5), .ref (X 6), .ref (X 7), .ref (X 8)])), (X 0, .inl (gI g, 12, .inl (V 0))), (X 1, .inl (gI g, 480, .inl (V 1))), (X 2, .inl (gI g, 24, .inl (V 2))), (X 3, .inl (gI g, 24, .inl (V 3))), (X 4, .inl (gI g, 24, .inl (V 4))), (X 5, .inl (gI g, 192, .inl (V 5))), (X 6, .inl (gI g, 24, .inl (V 6))), (X 7, .inl (gI g, 24, .inl (V 7))), (X 8, .inl (gI g, 24, .inl (V 8)))] := hD
  refine lv_aload_n hx hb dX3_sameSums_0 rfl (lv_at hl 0 rfl) ?_
  refine lv_iload_n hx hb dX3_sameSums_1 rfl (lv_at hl 1 rfl) ?_
  refine lv_iload_n hx hb dX3_sameSums_2 rfl (lv_at hl 2 rfl) ?_
  refine lv_iconst (v := 0) hx hb dX3_sameSums_3 (by decide +kernel) ?_
  refine w_V (As := [.int (x), .int (y), .int (0)]) (rest := []) S (c_X3_pairsOf0_1 l g h X V th lc ec hlc hec x hxb y) (cwV 3 hts gX3_sameSums_X3_pairsOf rfl rfl rfl (by decide +kernel) ⟨Nat.le_of_ble_eq_true rfl, Nat.le_of_ble_eq_true rfl⟩) hK (va_recv hK.1 hP (ci := 3) (q0 := 0) rfl rfl) hP (hD.weaken (fun _ _ _ _ => trivial)) hS (wA_D hD [0, 1, 2, 3, 4, 5, 6, 7, 8, 9] rfl) rfl hl.1 rfl (Nat.le_of_ble_eq_true rfl) dX3_sameSums_4 ⟨Nat.le_of_ble_eq_true rfl, Nat.le_of_ble_eq_true rfl⟩ (fun H locs hP1 hz1 hk1 hS => ?_)
  have hP : va_P (gD g) vwCl [(h, .inr (3, [.int (1), .int (nI lc), .ref (X 0), .ref (X 1), .int (nI ec), .ref (X 2), .ref (X 3), .ref (X 4), .ref (X 5), .ref (X 6), .ref (X 7), .ref (X 8)])), (X 0, .inl (gI g, 12, .inl (V 0))), (X 1, .inl (gI g, 480, .inl (V 1))), (X 2, .inl (gI g, 24, .inl (V 2))), (X 3, .inl (gI g, 24, .inl (V 3))), (X 4, .inl (gI g, 24, .inl (V 4))), (X 5, .inl (gI g, 192, .inl (V 5))), (X 6, .inl (gI g, 24, .inl (V 6))), (X 7, .inl (gI g, 24, .inl (V 7))), (X 8, .inl (gI g, 24, .inl (V 8)))] H := hP1
  have hD : va_D A [(h, .inr (3, [.int (1), .int (nI lc), .ref (X 0), .ref (X 1), .int (nI ec), .ref (X 2), .ref (X 3), .ref (X 4), .ref (X 5), .ref (X 6), .ref (X 7), .ref (X 8)])), (X 0, .inl (gI g, 12, .inl (V 0))), (X 1, .inl (gI g, 480, .inl (V 1))), (X 2, .inl (gI g, 24, .inl (V 2))), (X 3, .inl (gI g, 24, .inl (V 3))), (X 4, .inl (gI g, 24, .inl (V 4))), (X 5, .inl (gI g, 192, .inl (V 5))), (X 6, .inl (gI g, 24, .inl (V 6))), (X 7, .inl (gI g, 24, .inl (V 7))), (X 8, .inl (gI g, 24, .inl (V 8)))] := D_same hD rfl
  exact hret _ _ _ _ hP hS dX3_sameSums_7

set_option maxHeartbeats 4000000 in
set_option maxRecDepth 100000 in
/-- sameSums_2 -/
theorem c_X3_sameSums_2 (l : Launch) (g : gT) (h : Nat) (X : Nat → Nat) (V : Nat → Nat → Int32) (th : Int32) (lc ec : Nat) (NN : Nat → Nat) (hlc : lc ≤ 12) (hec : ec ≤ 24) (hNN : ∀ i, i < lc → V 0 i = nI (NN i) ∧ NN i ≤ 40) (k : Nat) (hk : k < lc) (y : Int32) (hy : (decide (1 ≤ y) && decide (y ≤ 40)) = false) : wM g l yX3_sameSums wsX3_sameSums { frames := 4, cells := 0, slots := 0, locals := 96 } [.ref (h), .int (nI k), .int (y)] (mdW g h X V th lc ec) (some (.int (0))) (mdW g h X V 2 lc ec) := by
  refine wr_ofI (cc := cX3_sameSums) (maxL := 3) (by decide) rfl (Nat.le_of_ble_eq_true rfl) ?_
  intro p e s m args below meth c H0 ls A Q hx hb hml hts hown hK hP hD hS hl hret
  have hl : lv_has ls 3 [(0, .ref (h)), (1, .int (nI k)), (2, .int (y))] := hl
  have S : CallFix p m c cX3_sameSums 3 s args wsX3_sameSums RX3 := ⟨hx, hb, hml, hown, hts⟩
  obtain ⟨H, eH⟩ : ∃ H : Heap, H = H0 := ⟨_, rfl⟩
  rw [← eH] at hP ⊢
  have hS : va_S A H0 H [] := by rw [eH]; exact hS
  have hP : va_P (gD g) vwCl [(h, .inr (3, [.int (th), .int (nI lc), .ref (X 0), .ref (X 1), .int (nI ec), .ref (X 2), .ref (X 3), .ref (X 4), .ref (X 5), .ref (X 6), .ref (X 7), .ref (X 8)])), (X 0, .inl (gI g, 12, .inl (V 0))), (X 1, .inl (gI g, 480, .inl (V 1))), (X 2, .inl (gI g, 24, .inl (V 2))), (X 3, .inl (gI g, 24, .inl (V 3))), (X 4, .inl (gI g, 24, .inl (V 4))), (X 5, .inl (gI g, 192, .inl (V 5))), (X 6, .inl (gI g, 24, .inl (V 6))), (X 7, .inl (gI g, 24, .inl (V 7))), (X 8, .inl (gI g, 24, .inl (V 8)))] H := hP
  have hD : va_D A [(h, .inr (3, [.int (th), .int (nI lc), .ref (X 0), .ref (X 1), .int (nI ec), .ref (X 2), .ref (X 3), .ref (X 4), .ref (X 5), .ref (X 6), .ref (X 7), .ref (X 8)])), (X 0, .inl (gI g, 12, .inl (V 0))), (X 1, .inl (gI g, 480, .inl (V 1))), (X 2, .inl (gI g, 24, .inl (V 2))), (X 3, .inl (gI g, 24, .inl (V 3))), (X 4, .inl (gI g, 24, .inl (V 4))), (X 5, .inl (gI g, 192, .inl (V 5))), (X 6, .inl (gI g, 24, .inl (V 6))), (X 7, .inl (gI g, 24, .inl (V 7))), (X 8, .inl (gI g, 24, .inl (V 8)))] := hD
  refine lv_aload_n hx hb dX3_sameSums_0 rfl (lv_at hl 0 rfl) ?_
  refine lv_iload_n hx hb dX3_sameSums_1 rfl (lv_at hl 1 rfl) ?_
  refine lv_iload_n hx hb dX3_sameSums_2 rfl (lv_at hl 2 rfl) ?_
  refine lv_iconst (v := 0) hx hb dX3_sameSums_3 (by decide +kernel) ?_
  refine w_V (As := [.int (nI k), .int (y), .int (0)]) (rest := []) S (c_X3_pairsOf0_2 l g h X V th lc ec NN hlc hec hNN k hk y hy) (cwV 3 hts gX3_sameSums_X3_pairsOf rfl rfl rfl (by decide +kernel) ⟨Nat.le_of_ble_eq_true rfl, Nat.le_of_ble_eq_true rfl⟩) hK (va_recv hK.1 hP (ci := 3) (q0 := 0) rfl rfl) hP (hD.weaken (fun _ _ _ _ => trivial)) hS (wA_D hD [0, 1, 2, 3, 4, 5, 6, 7, 8, 9] rfl) rfl hl.1 rfl (Nat.le_of_ble_eq_true rfl) dX3_sameSums_4 ⟨Nat.le_of_ble_eq_true rfl, Nat.le_of_ble_eq_true rfl⟩ (fun H locs hP1 hz1 hk1 hS => ?_)
  have hP : va_P (gD g) vwCl [(h, .inr (3, [.int (2), .int (nI lc), .ref (X 0), .ref (X 1), .int (nI ec), .ref (X 2), .ref (X 3), .ref (X 4), .ref (X 5), .ref (X 6), .ref (X 7), .ref (X 8)])), (X 0, .inl (gI g, 12, .inl (V 0))), (X 1, .inl (gI g, 480, .inl (V 1))), (X 2, .inl (gI g, 24, .inl (V 2))), (X 3, .inl (gI g, 24, .inl (V 3))), (X 4, .inl (gI g, 24, .inl (V 4))), (X 5, .inl (gI g, 192, .inl (V 5))), (X 6, .inl (gI g, 24, .inl (V 6))), (X 7, .inl (gI g, 24, .inl (V 7))), (X 8, .inl (gI g, 24, .inl (V 8)))] H := hP1
  have hD : va_D A [(h, .inr (3, [.int (2), .int (nI lc), .ref (X 0), .ref (X 1), .int (nI ec), .ref (X 2), .ref (X 3), .ref (X 4), .ref (X 5), .ref (X 6), .ref (X 7), .ref (X 8)])), (X 0, .inl (gI g, 12, .inl (V 0))), (X 1, .inl (gI g, 480, .inl (V 1))), (X 2, .inl (gI g, 24, .inl (V 2))), (X 3, .inl (gI g, 24, .inl (V 3))), (X 4, .inl (gI g, 24, .inl (V 4))), (X 5, .inl (gI g, 192, .inl (V 5))), (X 6, .inl (gI g, 24, .inl (V 6))), (X 7, .inl (gI g, 24, .inl (V 7))), (X 8, .inl (gI g, 24, .inl (V 8)))] := D_same hD rfl
  exact hret _ _ _ _ hP hS dX3_sameSums_7

set_option maxHeartbeats 4000000 in
set_option maxRecDepth 100000 in
/-- pairsOf1 -/
theorem c_X3_pairsOf1 (l : Launch) (g : gT) (h : Nat) (X : Nat → Nat) (V : Nat → Nat → Int32) (th : Int32) (lc ec : Nat) (NN : Nat → Nat) (hlc : lc ≤ 12) (hec : ec ≤ 24) (hNN : ∀ i, i < lc → V 0 i = nI (NN i) ∧ NN i ≤ 40) (k : Nat) (hk : k < lc) (t : Nat) (ht : 1 ≤ t) (ht2 : t ≤ 40) : wM g l yX3_pairsOf wsX3_pairsOf { frames := 3, cells := 0, slots := 0, locals := 73 } [.ref (h), .int (nI k), .int (nI t), .int (1)] (mdW g h X V th lc ec) (some (.int (prM (paP (rwV V k) t true) (NN k + 1 - t)))) (mdW g h X V 0 lc ec) := by
  refine wr_ofI (cc := cX3_pairsOf) (maxL := 4) (by decide) rfl (Nat.le_of_ble_eq_true rfl) ?_
  intro p e s m args below meth c H0 ls A Q hx hb hml hts hown hK hP hD hS hl hret
  have hl : lv_has ls 4 [(0, .ref (h)), (1, .int (nI k)), (2, .int (nI t)), (3, .int (1))] := hl
  have S : CallFix p m c cX3_pairsOf 4 s args wsX3_pairsOf RX3 := ⟨hx, hb, hml, hown, hts⟩
  have hgk : inB (nI k) lc = true := inB_nI hk (by omega)
  have hVn := (hNN k hk).1
  have hn := (hNN k hk).2
  have iX3 : ∀ w ∈ u_ws RX3 TX3 12, w ∈ wsX3_pairsOf := by decide +kernel
  have f37 := hts (.fieldLink RX3 37 "LetterSealsModel" "thrown" "I") (by decide +kernel)
  obtain ⟨H, eH⟩ : ∃ H : Heap, H = H0 := ⟨_, rfl⟩
  rw [← eH] at hP ⊢
  have hS : va_S A H0 H [] := by rw [eH]; exact hS
  have hP : va_P (gD g) vwCl [(h, .inr (3, [.int (th), .int (nI lc), .ref (X 0), .ref (X 1), .int (nI ec), .ref (X 2), .ref (X 3), .ref (X 4), .ref (X 5), .ref (X 6), .ref (X 7), .ref (X 8)])), (X 0, .inl (gI g, 12, .inl (V 0))), (X 1, .inl (gI g, 480, .inl (V 1))), (X 2, .inl (gI g, 24, .inl (V 2))), (X 3, .inl (gI g, 24, .inl (V 3))), (X 4, .inl (gI g, 24, .inl (V 4))), (X 5, .inl (gI g, 192, .inl (V 5))), (X 6, .inl (gI g, 24, .inl (V 6))), (X 7, .inl (gI g, 24, .inl (V 7))), (X 8, .inl (gI g, 24, .inl (V 8)))] H := hP
  have hD : va_D A [(h, .inr (3, [.int (th), .int (nI lc), .ref (X 0), .ref (X 1), .int (nI ec), .ref (X 2), .ref (X 3), .ref (X 4), .ref (X 5), .ref (X 6), .ref (X 7), .ref (X 8)])), (X 0, .inl (gI g, 12, .inl (V 0))), (X 1, .inl (gI g, 480, .inl (V 1))), (X 2, .inl (gI g, 24, .inl (V 2))), (X 3, .inl (gI g, 24, .inl (V 3))), (X 4, .inl (gI g, 24, .inl (V 4))), (X 5, .inl (gI g, 192, .inl (V 5))), (X 6, .inl (gI g, 24, .inl (V 6))), (X 7, .inl (gI g, 24, .inl (V 7))), (X 8, .inl (gI g, 24, .inl (V 8)))] := hD
  refine lv_aload_n hx hb dX3_pairsOf_0 rfl (lv_at hl 0 rfl) ?_
  refine lv_iconst (v := 0) hx hb dX3_pairsOf_1 (by decide +kernel) ?_
  refine va_put (D := gD g) (ci := 3) (v := .int (0)) (ty := .int) (C := RX3) (T := TX3) (N := 12) hx hb hts iX3 tyX3 tyX3_ok nmX3 hown hK.1 hP hD hS 0 rfl rfl 0 (by decide) f37 (fun _ h9 => h9) rfl (by decide +kernel) rfl rfl (Nat.le_of_ble_eq_true rfl) dX3_pairsOf_2 (fun H locs hP hD hS => ?_)
  have hP : va_P (gD g) vwCl [(h, .inr (3, [.int (0), .int (nI lc), .ref (X 0), .ref (X 1), .int (nI ec), .ref (X 2), .ref (X 3), .ref (X 4), .ref (X 5), .ref (X 6), .ref (X 7), .ref (X 8)])), (X 0, .inl (gI g, 12, .inl (V 0))), (X 1, .inl (gI g, 480, .inl (V 1))), (X 2, .inl (gI g, 24, .inl (V 2))), (X 3, .inl (gI g, 24, .inl (V 3))), (X 4, .inl (gI g, 24, .inl (V 4))), (X 5, .inl (gI g, 192, .inl (V 5))), (X 6, .inl (gI g, 24, .inl (V 6))), (X 7, .inl (gI g, 24, .inl (V 7))), (X 8, .inl (gI g, 24, .inl (V 8)))] H := hP
  have hD : va_D A [(h, .inr (3, [.int (0), .int (nI lc), .ref (X 0), .ref (X 1), .int (nI ec), .ref (X 2), .ref (X 3), .ref (X 4), .ref (X 5), .ref (X 6), .ref (X 7), .ref (X 8)])), (X 0, .inl (gI g, 12, .inl (V 0))), (X 1, .inl (gI g, 480, .inl (V 1))), (X 2, .inl (gI g, 24, .inl (V 2))), (X 3, .inl (gI g, 24, .inl (V 3))), (X 4, .inl (gI g, 24, .inl (V 4))), (X 5, .inl (gI g, 192, .inl (V 5))), (X 6, .inl (gI g, 24, .inl (V 6))), (X 7, .inl (gI g, 24, .inl (V 7))), (X 8, .inl (gI g, 24, .inl (V 8)))] := hD
  refine lv_aload_n hx hb dX3_pairsOf_5 rfl (lv_at hl 0 rfl) ?_
  refine lv_iload_n hx hb dX3_pairsOf_6 rfl (lv_at hl 1 rfl) ?_
  refine p_V (As := [.int (nI k)]) (rest := []) S (c_X3_isLetter l g h X V 0 lc ec (nI k) hlc hec) (cwV 1 hts gX3_pairsOf_X3_isLetter rfl rfl rfl (by decide +kernel) ⟨Nat.le_of_ble_eq_true rfl, Nat.le_of_ble_eq_true rfl⟩) hK (va_recv hK.1 hP (ci := 3) (q0 := 0) rfl rfl) (hP) rfl hl.1 rfl (Nat.le_of_ble_eq_true rfl) dX3_pairsOf_7 ⟨Nat.le_of_ble_eq_true rfl, Nat.le_of_ble_eq_true rfl⟩ ?_
  refine br_neB (tgt := 19) hx hb dX3_pairsOf_10 (by decide) (fun c10 => ?_) (fun c10 => ?_)
  · refine lv_iload_n hx hb dX3_pairsOf_19 rfl (lv_at hl 2 rfl) ?_
    refine lv_iconst (v := 1) hx hb dX3_pairsOf_20 (by decide +kernel) ?_
    refine lv_bipush (v := 40) hx hb dX3_pairsOf_21 (by decide +kernel) ?_
    refine p_S (As := [.int (nI t), .int (1), .int (40)]) (rest := []) S (c_X3_isFrom l g (nI t) (1) (40)) (cwS 3 hts gX3_pairsOf_X3_isFrom rfl rfl rfl (by decide +kernel) ⟨Nat.le_of_ble_eq_true rfl, Nat.le_of_ble_eq_true rfl⟩) hK (trivial) rfl hl.1 rfl (Nat.le_of_ble_eq_true rfl) dX3_pairsOf_23 ⟨Nat.le_of_ble_eq_true rfl, Nat.le_of_ble_eq_true rfl⟩ ?_
    refine br_eqB (tgt := 39) hx hb dX3_pairsOf_26 (by decide) (fun c26 => ?_) (fun c26 => ?_)
    · exact absurd c26 (by rw [rng_40 ht ht2]; decide)
    · refine lv_aload_n hx hb dX3_pairsOf_29 rfl (lv_at hl 0 rfl) ?_
      refine lv_iload_n hx hb dX3_pairsOf_30 rfl (lv_at hl 1 rfl) ?_
      refine lv_iload_n hx hb dX3_pairsOf_31 rfl (lv_at hl 2 rfl) ?_
      refine lv_iload_n hx hb dX3_pairsOf_32 rfl (lv_at hl 3 rfl) ?_
      refine p_V (As := [.int (nI k), .int (nI t), .int (1)]) (rest := []) S (c_X3_pairs1 l g h X V 0 lc ec NN hlc hec hNN k hk t ht ht2) (cwV 3 hts gX3_pairsOf_X3_pairs rfl rfl rfl (by decide +kernel) ⟨Nat.le_of_ble_eq_true rfl, Nat.le_of_ble_eq_true rfl⟩) hK (va_recv hK.1 hP (ci := 3) (q0 := 0) rfl rfl) (hP) rfl hl.1 rfl (Nat.le_of_ble_eq_true rfl) dX3_pairsOf_33 ⟨Nat.le_of_ble_eq_true rfl, Nat.le_of_ble_eq_true rfl⟩ ?_
      refine lv_goto (tgt := 44) hx hb dX3_pairsOf_36 (by decide) ?_
      exact hret _ _ _ _ hP hS dX3_pairsOf_44
  · exact absurd c10 (by rw [hgk]; decide)

set_option maxHeartbeats 4000000 in
set_option maxRecDepth 100000 in
/-- pairsOf1_1 -/
theorem c_X3_pairsOf1_1 (l : Launch) (g : gT) (h : Nat) (X : Nat → Nat) (V : Nat → Nat → Int32) (th : Int32) (lc ec : Nat) (hlc : lc ≤ 12) (hec : ec ≤ 24) (x : Int32) (hxb : inB x lc = false) (y : Int32) : wM g l yX3_pairsOf wsX3_pairsOf { frames := 3, cells := 0, slots := 0, locals := 73 } [.ref (h), .int (x), .int (y), .int (1)] (mdW g h X V th lc ec) (some (.int (0))) (mdW g h X V 1 lc ec) := by
  refine wr_ofI (cc := cX3_pairsOf) (maxL := 4) (by decide) rfl (Nat.le_of_ble_eq_true rfl) ?_
  intro p e s m args below meth c H0 ls A Q hx hb hml hts hown hK hP hD hS hl hret
  have hl : lv_has ls 4 [(0, .ref (h)), (1, .int (x)), (2, .int (y)), (3, .int (1))] := hl
  have S : CallFix p m c cX3_pairsOf 4 s args wsX3_pairsOf RX3 := ⟨hx, hb, hml, hown, hts⟩
  have iX3 : ∀ w ∈ u_ws RX3 TX3 12, w ∈ wsX3_pairsOf := by decide +kernel
  have f37 := hts (.fieldLink RX3 37 "LetterSealsModel" "thrown" "I") (by decide +kernel)
  obtain ⟨H, eH⟩ : ∃ H : Heap, H = H0 := ⟨_, rfl⟩
  rw [← eH] at hP ⊢
  have hS : va_S A H0 H [] := by rw [eH]; exact hS
  have hP : va_P (gD g) vwCl [(h, .inr (3, [.int (th), .int (nI lc), .ref (X 0), .ref (X 1), .int (nI ec), .ref (X 2), .ref (X 3), .ref (X 4), .ref (X 5), .ref (X 6), .ref (X 7), .ref (X 8)])), (X 0, .inl (gI g, 12, .inl (V 0))), (X 1, .inl (gI g, 480, .inl (V 1))), (X 2, .inl (gI g, 24, .inl (V 2))), (X 3, .inl (gI g, 24, .inl (V 3))), (X 4, .inl (gI g, 24, .inl (V 4))), (X 5, .inl (gI g, 192, .inl (V 5))), (X 6, .inl (gI g, 24, .inl (V 6))), (X 7, .inl (gI g, 24, .inl (V 7))), (X 8, .inl (gI g, 24, .inl (V 8)))] H := hP
  have hD : va_D A [(h, .inr (3, [.int (th), .int (nI lc), .ref (X 0), .ref (X 1), .int (nI ec), .ref (X 2), .ref (X 3), .ref (X 4), .ref (X 5), .ref (X 6), .ref (X 7), .ref (X 8)])), (X 0, .inl (gI g, 12, .inl (V 0))), (X 1, .inl (gI g, 480, .inl (V 1))), (X 2, .inl (gI g, 24, .inl (V 2))), (X 3, .inl (gI g, 24, .inl (V 3))), (X 4, .inl (gI g, 24, .inl (V 4))), (X 5, .inl (gI g, 192, .inl (V 5))), (X 6, .inl (gI g, 24, .inl (V 6))), (X 7, .inl (gI g, 24, .inl (V 7))), (X 8, .inl (gI g, 24, .inl (V 8)))] := hD
  refine lv_aload_n hx hb dX3_pairsOf_0 rfl (lv_at hl 0 rfl) ?_
  refine lv_iconst (v := 0) hx hb dX3_pairsOf_1 (by decide +kernel) ?_
  refine va_put (D := gD g) (ci := 3) (v := .int (0)) (ty := .int) (C := RX3) (T := TX3) (N := 12) hx hb hts iX3 tyX3 tyX3_ok nmX3 hown hK.1 hP hD hS 0 rfl rfl 0 (by decide) f37 (fun _ h9 => h9) rfl (by decide +kernel) rfl rfl (Nat.le_of_ble_eq_true rfl) dX3_pairsOf_2 (fun H locs hP hD hS => ?_)
  have hP : va_P (gD g) vwCl [(h, .inr (3, [.int (0), .int (nI lc), .ref (X 0), .ref (X 1), .int (nI ec), .ref (X 2), .ref (X 3), .ref (X 4), .ref (X 5), .ref (X 6), .ref (X 7), .ref (X 8)])), (X 0, .inl (gI g, 12, .inl (V 0))), (X 1, .inl (gI g, 480, .inl (V 1))), (X 2, .inl (gI g, 24, .inl (V 2))), (X 3, .inl (gI g, 24, .inl (V 3))), (X 4, .inl (gI g, 24, .inl (V 4))), (X 5, .inl (gI g, 192, .inl (V 5))), (X 6, .inl (gI g, 24, .inl (V 6))), (X 7, .inl (gI g, 24, .inl (V 7))), (X 8, .inl (gI g, 24, .inl (V 8)))] H := hP
  have hD : va_D A [(h, .inr (3, [.int (0), .int (nI lc), .ref (X 0), .ref (X 1), .int (nI ec), .ref (X 2), .ref (X 3), .ref (X 4), .ref (X 5), .ref (X 6), .ref (X 7), .ref (X 8)])), (X 0, .inl (gI g, 12, .inl (V 0))), (X 1, .inl (gI g, 480, .inl (V 1))), (X 2, .inl (gI g, 24, .inl (V 2))), (X 3, .inl (gI g, 24, .inl (V 3))), (X 4, .inl (gI g, 24, .inl (V 4))), (X 5, .inl (gI g, 192, .inl (V 5))), (X 6, .inl (gI g, 24, .inl (V 6))), (X 7, .inl (gI g, 24, .inl (V 7))), (X 8, .inl (gI g, 24, .inl (V 8)))] := hD
  refine lv_aload_n hx hb dX3_pairsOf_5 rfl (lv_at hl 0 rfl) ?_
  refine lv_iload_n hx hb dX3_pairsOf_6 rfl (lv_at hl 1 rfl) ?_
  refine p_V (As := [.int (x)]) (rest := []) S (c_X3_isLetter l g h X V 0 lc ec (x) hlc hec) (cwV 1 hts gX3_pairsOf_X3_isLetter rfl rfl rfl (by decide +kernel) ⟨Nat.le_of_ble_eq_true rfl, Nat.le_of_ble_eq_true rfl⟩) hK (va_recv hK.1 hP (ci := 3) (q0 := 0) rfl rfl) (hP) rfl hl.1 rfl (Nat.le_of_ble_eq_true rfl) dX3_pairsOf_7 ⟨Nat.le_of_ble_eq_true rfl, Nat.le_of_ble_eq_true rfl⟩ ?_
  refine br_neB (tgt := 19) hx hb dX3_pairsOf_10 (by decide) (fun c10 => ?_) (fun c10 => ?_)
  · exact absurd c10 (by rw [hxb]; decide)
  · refine lv_aload_n hx hb dX3_pairsOf_13 rfl (lv_at hl 0 rfl) ?_
    refine lv_iconst (v := 1) hx hb dX3_pairsOf_14 (by decide +kernel) ?_
    refine w_V (As := [.int (1)]) (rest := []) S (c_X3_no l g h X V 0 lc ec (1)) (cwV 1 hts gX3_pairsOf_X3_no rfl rfl rfl (by decide +kernel) ⟨Nat.le_of_ble_eq_true rfl, Nat.le_of_ble_eq_true rfl⟩) hK (va_recv hK.1 hP (ci := 3) (q0 := 0) rfl rfl) hP (hD.weaken (fun _ _ _ _ => trivial)) hS (wA_D hD [0, 1, 2, 3, 4, 5, 6, 7, 8, 9] rfl) rfl hl.1 rfl (Nat.le_of_ble_eq_true rfl) dX3_pairsOf_15 ⟨Nat.le_of_ble_eq_true rfl, Nat.le_of_ble_eq_true rfl⟩ (fun H locs hP1 hz1 hk1 hS => ?_)
    have hP : va_P (gD g) vwCl [(h, .inr (3, [.int (1), .int (nI lc), .ref (X 0), .ref (X 1), .int (nI ec), .ref (X 2), .ref (X 3), .ref (X 4), .ref (X 5), .ref (X 6), .ref (X 7), .ref (X 8)])), (X 0, .inl (gI g, 12, .inl (V 0))), (X 1, .inl (gI g, 480, .inl (V 1))), (X 2, .inl (gI g, 24, .inl (V 2))), (X 3, .inl (gI g, 24, .inl (V 3))), (X 4, .inl (gI g, 24, .inl (V 4))), (X 5, .inl (gI g, 192, .inl (V 5))), (X 6, .inl (gI g, 24, .inl (V 6))), (X 7, .inl (gI g, 24, .inl (V 7))), (X 8, .inl (gI g, 24, .inl (V 8)))] H := hP1
    have hD : va_D A [(h, .inr (3, [.int (1), .int (nI lc), .ref (X 0), .ref (X 1), .int (nI ec), .ref (X 2), .ref (X 3), .ref (X 4), .ref (X 5), .ref (X 6), .ref (X 7), .ref (X 8)])), (X 0, .inl (gI g, 12, .inl (V 0))), (X 1, .inl (gI g, 480, .inl (V 1))), (X 2, .inl (gI g, 24, .inl (V 2))), (X 3, .inl (gI g, 24, .inl (V 3))), (X 4, .inl (gI g, 24, .inl (V 4))), (X 5, .inl (gI g, 192, .inl (V 5))), (X 6, .inl (gI g, 24, .inl (V 6))), (X 7, .inl (gI g, 24, .inl (V 7))), (X 8, .inl (gI g, 24, .inl (V 8)))] := D_same hD rfl
    exact hret _ _ _ _ hP hS dX3_pairsOf_18

set_option maxHeartbeats 4000000 in
set_option maxRecDepth 100000 in
/-- pairsOf1_2 -/
theorem c_X3_pairsOf1_2 (l : Launch) (g : gT) (h : Nat) (X : Nat → Nat) (V : Nat → Nat → Int32) (th : Int32) (lc ec : Nat) (NN : Nat → Nat) (hlc : lc ≤ 12) (hec : ec ≤ 24) (hNN : ∀ i, i < lc → V 0 i = nI (NN i) ∧ NN i ≤ 40) (k : Nat) (hk : k < lc) (y : Int32) (hy : (decide (1 ≤ y) && decide (y ≤ 40)) = false) : wM g l yX3_pairsOf wsX3_pairsOf { frames := 3, cells := 0, slots := 0, locals := 73 } [.ref (h), .int (nI k), .int (y), .int (1)] (mdW g h X V th lc ec) (some (.int (0))) (mdW g h X V 2 lc ec) := by
  refine wr_ofI (cc := cX3_pairsOf) (maxL := 4) (by decide) rfl (Nat.le_of_ble_eq_true rfl) ?_
  intro p e s m args below meth c H0 ls A Q hx hb hml hts hown hK hP hD hS hl hret
  have hl : lv_has ls 4 [(0, .ref (h)), (1, .int (nI k)), (2, .int (y)), (3, .int (1))] := hl
  have S : CallFix p m c cX3_pairsOf 4 s args wsX3_pairsOf RX3 := ⟨hx, hb, hml, hown, hts⟩
  have hgk : inB (nI k) lc = true := inB_nI hk (by omega)
  have hVn := (hNN k hk).1
  have hn := (hNN k hk).2
  have iX3 : ∀ w ∈ u_ws RX3 TX3 12, w ∈ wsX3_pairsOf := by decide +kernel
  have f37 := hts (.fieldLink RX3 37 "LetterSealsModel" "thrown" "I") (by decide +kernel)
  obtain ⟨H, eH⟩ : ∃ H : Heap, H = H0 := ⟨_, rfl⟩
  rw [← eH] at hP ⊢
  have hS : va_S A H0 H [] := by rw [eH]; exact hS
  have hP : va_P (gD g) vwCl [(h, .inr (3, [.int (th), .int (nI lc), .ref (X 0), .ref (X 1), .int (nI ec), .ref (X 2), .ref (X 3), .ref (X 4), .ref (X 5), .ref (X 6), .ref (X 7), .ref (X 8)])), (X 0, .inl (gI g, 12, .inl (V 0))), (X 1, .inl (gI g, 480, .inl (V 1))), (X 2, .inl (gI g, 24, .inl (V 2))), (X 3, .inl (gI g, 24, .inl (V 3))), (X 4, .inl (gI g, 24, .inl (V 4))), (X 5, .inl (gI g, 192, .inl (V 5))), (X 6, .inl (gI g, 24, .inl (V 6))), (X 7, .inl (gI g, 24, .inl (V 7))), (X 8, .inl (gI g, 24, .inl (V 8)))] H := hP
  have hD : va_D A [(h, .inr (3, [.int (th), .int (nI lc), .ref (X 0), .ref (X 1), .int (nI ec), .ref (X 2), .ref (X 3), .ref (X 4), .ref (X 5), .ref (X 6), .ref (X 7), .ref (X 8)])), (X 0, .inl (gI g, 12, .inl (V 0))), (X 1, .inl (gI g, 480, .inl (V 1))), (X 2, .inl (gI g, 24, .inl (V 2))), (X 3, .inl (gI g, 24, .inl (V 3))), (X 4, .inl (gI g, 24, .inl (V 4))), (X 5, .inl (gI g, 192, .inl (V 5))), (X 6, .inl (gI g, 24, .inl (V 6))), (X 7, .inl (gI g, 24, .inl (V 7))), (X 8, .inl (gI g, 24, .inl (V 8)))] := hD
  refine lv_aload_n hx hb dX3_pairsOf_0 rfl (lv_at hl 0 rfl) ?_
  refine lv_iconst (v := 0) hx hb dX3_pairsOf_1 (by decide +kernel) ?_
  refine va_put (D := gD g) (ci := 3) (v := .int (0)) (ty := .int) (C := RX3) (T := TX3) (N := 12) hx hb hts iX3 tyX3 tyX3_ok nmX3 hown hK.1 hP hD hS 0 rfl rfl 0 (by decide) f37 (fun _ h9 => h9) rfl (by decide +kernel) rfl rfl (Nat.le_of_ble_eq_true rfl) dX3_pairsOf_2 (fun H locs hP hD hS => ?_)
  have hP : va_P (gD g) vwCl [(h, .inr (3, [.int (0), .int (nI lc), .ref (X 0), .ref (X 1), .int (nI ec), .ref (X 2), .ref (X 3), .ref (X 4), .ref (X 5), .ref (X 6), .ref (X 7), .ref (X 8)])), (X 0, .inl (gI g, 12, .inl (V 0))), (X 1, .inl (gI g, 480, .inl (V 1))), (X 2, .inl (gI g, 24, .inl (V 2))), (X 3, .inl (gI g, 24, .inl (V 3))), (X 4, .inl (gI g, 24, .inl (V 4))), (X 5, .inl (gI g, 192, .inl (V 5))), (X 6, .inl (gI g, 24, .inl (V 6))), (X 7, .inl (gI g, 24, .inl (V 7))), (X 8, .inl (gI g, 24, .inl (V 8)))] H := hP
  have hD : va_D A [(h, .inr (3, [.int (0), .int (nI lc), .ref (X 0), .ref (X 1), .int (nI ec), .ref (X 2), .ref (X 3), .ref (X 4), .ref (X 5), .ref (X 6), .ref (X 7), .ref (X 8)])), (X 0, .inl (gI g, 12, .inl (V 0))), (X 1, .inl (gI g, 480, .inl (V 1))), (X 2, .inl (gI g, 24, .inl (V 2))), (X 3, .inl (gI g, 24, .inl (V 3))), (X 4, .inl (gI g, 24, .inl (V 4))), (X 5, .inl (gI g, 192, .inl (V 5))), (X 6, .inl (gI g, 24, .inl (V 6))), (X 7, .inl (gI g, 24, .inl (V 7))), (X 8, .inl (gI g, 24, .inl (V 8)))] := hD
  refine lv_aload_n hx hb dX3_pairsOf_5 rfl (lv_at hl 0 rfl) ?_
  refine lv_iload_n hx hb dX3_pairsOf_6 rfl (lv_at hl 1 rfl) ?_
  refine p_V (As := [.int (nI k)]) (rest := []) S (c_X3_isLetter l g h X V 0 lc ec (nI k) hlc hec) (cwV 1 hts gX3_pairsOf_X3_isLetter rfl rfl rfl (by decide +kernel) ⟨Nat.le_of_ble_eq_true rfl, Nat.le_of_ble_eq_true rfl⟩) hK (va_recv hK.1 hP (ci := 3) (q0 := 0) rfl rfl) (hP) rfl hl.1 rfl (Nat.le_of_ble_eq_true rfl) dX3_pairsOf_7 ⟨Nat.le_of_ble_eq_true rfl, Nat.le_of_ble_eq_true rfl⟩ ?_
  refine br_neB (tgt := 19) hx hb dX3_pairsOf_10 (by decide) (fun c10 => ?_) (fun c10 => ?_)
  · refine lv_iload_n hx hb dX3_pairsOf_19 rfl (lv_at hl 2 rfl) ?_
    refine lv_iconst (v := 1) hx hb dX3_pairsOf_20 (by decide +kernel) ?_
    refine lv_bipush (v := 40) hx hb dX3_pairsOf_21 (by decide +kernel) ?_
    refine p_S (As := [.int (y), .int (1), .int (40)]) (rest := []) S (c_X3_isFrom l g (y) (1) (40)) (cwS 3 hts gX3_pairsOf_X3_isFrom rfl rfl rfl (by decide +kernel) ⟨Nat.le_of_ble_eq_true rfl, Nat.le_of_ble_eq_true rfl⟩) hK (trivial) rfl hl.1 rfl (Nat.le_of_ble_eq_true rfl) dX3_pairsOf_23 ⟨Nat.le_of_ble_eq_true rfl, Nat.le_of_ble_eq_true rfl⟩ ?_
    refine br_eqB (tgt := 39) hx hb dX3_pairsOf_26 (by decide) (fun c26 => ?_) (fun c26 => ?_)
    · refine lv_aload_n hx hb dX3_pairsOf_39 rfl (lv_at hl 0 rfl) ?_
      refine lv_iconst (v := 2) hx hb dX3_pairsOf_40 (by decide +kernel) ?_
      refine w_V (As := [.int (2)]) (rest := []) S (c_X3_no l g h X V 0 lc ec (2)) (cwV 1 hts gX3_pairsOf_X3_no rfl rfl rfl (by decide +kernel) ⟨Nat.le_of_ble_eq_true rfl, Nat.le_of_ble_eq_true rfl⟩) hK (va_recv hK.1 hP (ci := 3) (q0 := 0) rfl rfl) hP (hD.weaken (fun _ _ _ _ => trivial)) hS (wA_D hD [0, 1, 2, 3, 4, 5, 6, 7, 8, 9] rfl) rfl hl.1 rfl (Nat.le_of_ble_eq_true rfl) dX3_pairsOf_41 ⟨Nat.le_of_ble_eq_true rfl, Nat.le_of_ble_eq_true rfl⟩ (fun H locs hP1 hz1 hk1 hS => ?_)
      have hP : va_P (gD g) vwCl [(h, .inr (3, [.int (2), .int (nI lc), .ref (X 0), .ref (X 1), .int (nI ec), .ref (X 2), .ref (X 3), .ref (X 4), .ref (X 5), .ref (X 6), .ref (X 7), .ref (X 8)])), (X 0, .inl (gI g, 12, .inl (V 0))), (X 1, .inl (gI g, 480, .inl (V 1))), (X 2, .inl (gI g, 24, .inl (V 2))), (X 3, .inl (gI g, 24, .inl (V 3))), (X 4, .inl (gI g, 24, .inl (V 4))), (X 5, .inl (gI g, 192, .inl (V 5))), (X 6, .inl (gI g, 24, .inl (V 6))), (X 7, .inl (gI g, 24, .inl (V 7))), (X 8, .inl (gI g, 24, .inl (V 8)))] H := hP1
      have hD : va_D A [(h, .inr (3, [.int (2), .int (nI lc), .ref (X 0), .ref (X 1), .int (nI ec), .ref (X 2), .ref (X 3), .ref (X 4), .ref (X 5), .ref (X 6), .ref (X 7), .ref (X 8)])), (X 0, .inl (gI g, 12, .inl (V 0))), (X 1, .inl (gI g, 480, .inl (V 1))), (X 2, .inl (gI g, 24, .inl (V 2))), (X 3, .inl (gI g, 24, .inl (V 3))), (X 4, .inl (gI g, 24, .inl (V 4))), (X 5, .inl (gI g, 192, .inl (V 5))), (X 6, .inl (gI g, 24, .inl (V 6))), (X 7, .inl (gI g, 24, .inl (V 7))), (X 8, .inl (gI g, 24, .inl (V 8)))] := D_same hD rfl
      exact hret _ _ _ _ hP hS dX3_pairsOf_44
    · exact absurd c26 (by rw [hy]; decide)
  · exact absurd c10 (by rw [hgk]; decide)

set_option maxHeartbeats 4000000 in
set_option maxRecDepth 100000 in
/-- falseAlarms -/
theorem c_X3_falseAlarms (l : Launch) (g : gT) (h : Nat) (X : Nat → Nat) (V : Nat → Nat → Int32) (th : Int32) (lc ec : Nat) (NN : Nat → Nat) (hlc : lc ≤ 12) (hec : ec ≤ 24) (hNN : ∀ i, i < lc → V 0 i = nI (NN i) ∧ NN i ≤ 40) (k : Nat) (hk : k < lc) (t : Nat) (ht : 1 ≤ t) (ht2 : t ≤ 40) : wM g l yX3_falseAlarms wsX3_falseAlarms { frames := 4, cells := 0, slots := 0, locals := 96 } [.ref (h), .int (nI k), .int (nI t)] (mdW g h X V th lc ec) (some (.int (prM (paP (rwV V k) t true) (NN k + 1 - t)))) (mdW g h X V 0 lc ec) := by
  refine wr_ofI (cc := cX3_falseAlarms) (maxL := 3) (by decide) rfl (Nat.le_of_ble_eq_true rfl) ?_
  intro p e s m args below meth c H0 ls A Q hx hb hml hts hown hK hP hD hS hl hret
  have hl : lv_has ls 3 [(0, .ref (h)), (1, .int (nI k)), (2, .int (nI t))] := hl
  have S : CallFix p m c cX3_falseAlarms 3 s args wsX3_falseAlarms RX3 := ⟨hx, hb, hml, hown, hts⟩
  obtain ⟨H, eH⟩ : ∃ H : Heap, H = H0 := ⟨_, rfl⟩
  rw [← eH] at hP ⊢
  have hS : va_S A H0 H [] := by rw [eH]; exact hS
  have hP : va_P (gD g) vwCl [(h, .inr (3, [.int (th), .int (nI lc), .ref (X 0), .ref (X 1), .int (nI ec), .ref (X 2), .ref (X 3), .ref (X 4), .ref (X 5), .ref (X 6), .ref (X 7), .ref (X 8)])), (X 0, .inl (gI g, 12, .inl (V 0))), (X 1, .inl (gI g, 480, .inl (V 1))), (X 2, .inl (gI g, 24, .inl (V 2))), (X 3, .inl (gI g, 24, .inl (V 3))), (X 4, .inl (gI g, 24, .inl (V 4))), (X 5, .inl (gI g, 192, .inl (V 5))), (X 6, .inl (gI g, 24, .inl (V 6))), (X 7, .inl (gI g, 24, .inl (V 7))), (X 8, .inl (gI g, 24, .inl (V 8)))] H := hP
  have hD : va_D A [(h, .inr (3, [.int (th), .int (nI lc), .ref (X 0), .ref (X 1), .int (nI ec), .ref (X 2), .ref (X 3), .ref (X 4), .ref (X 5), .ref (X 6), .ref (X 7), .ref (X 8)])), (X 0, .inl (gI g, 12, .inl (V 0))), (X 1, .inl (gI g, 480, .inl (V 1))), (X 2, .inl (gI g, 24, .inl (V 2))), (X 3, .inl (gI g, 24, .inl (V 3))), (X 4, .inl (gI g, 24, .inl (V 4))), (X 5, .inl (gI g, 192, .inl (V 5))), (X 6, .inl (gI g, 24, .inl (V 6))), (X 7, .inl (gI g, 24, .inl (V 7))), (X 8, .inl (gI g, 24, .inl (V 8)))] := hD
  refine lv_aload_n hx hb dX3_falseAlarms_0 rfl (lv_at hl 0 rfl) ?_
  refine lv_iload_n hx hb dX3_falseAlarms_1 rfl (lv_at hl 1 rfl) ?_
  refine lv_iload_n hx hb dX3_falseAlarms_2 rfl (lv_at hl 2 rfl) ?_
  refine lv_iconst (v := 1) hx hb dX3_falseAlarms_3 (by decide +kernel) ?_
  refine w_V (As := [.int (nI k), .int (nI t), .int (1)]) (rest := []) S (c_X3_pairsOf1 l g h X V th lc ec NN hlc hec hNN k hk t ht ht2) (cwV 3 hts gX3_falseAlarms_X3_pairsOf rfl rfl rfl (by decide +kernel) ⟨Nat.le_of_ble_eq_true rfl, Nat.le_of_ble_eq_true rfl⟩) hK (va_recv hK.1 hP (ci := 3) (q0 := 0) rfl rfl) hP (hD.weaken (fun _ _ _ _ => trivial)) hS (wA_D hD [0, 1, 2, 3, 4, 5, 6, 7, 8, 9] rfl) rfl hl.1 rfl (Nat.le_of_ble_eq_true rfl) dX3_falseAlarms_4 ⟨Nat.le_of_ble_eq_true rfl, Nat.le_of_ble_eq_true rfl⟩ (fun H locs hP1 hz1 hk1 hS => ?_)
  have hP : va_P (gD g) vwCl [(h, .inr (3, [.int (0), .int (nI lc), .ref (X 0), .ref (X 1), .int (nI ec), .ref (X 2), .ref (X 3), .ref (X 4), .ref (X 5), .ref (X 6), .ref (X 7), .ref (X 8)])), (X 0, .inl (gI g, 12, .inl (V 0))), (X 1, .inl (gI g, 480, .inl (V 1))), (X 2, .inl (gI g, 24, .inl (V 2))), (X 3, .inl (gI g, 24, .inl (V 3))), (X 4, .inl (gI g, 24, .inl (V 4))), (X 5, .inl (gI g, 192, .inl (V 5))), (X 6, .inl (gI g, 24, .inl (V 6))), (X 7, .inl (gI g, 24, .inl (V 7))), (X 8, .inl (gI g, 24, .inl (V 8)))] H := hP1
  have hD : va_D A [(h, .inr (3, [.int (0), .int (nI lc), .ref (X 0), .ref (X 1), .int (nI ec), .ref (X 2), .ref (X 3), .ref (X 4), .ref (X 5), .ref (X 6), .ref (X 7), .ref (X 8)])), (X 0, .inl (gI g, 12, .inl (V 0))), (X 1, .inl (gI g, 480, .inl (V 1))), (X 2, .inl (gI g, 24, .inl (V 2))), (X 3, .inl (gI g, 24, .inl (V 3))), (X 4, .inl (gI g, 24, .inl (V 4))), (X 5, .inl (gI g, 192, .inl (V 5))), (X 6, .inl (gI g, 24, .inl (V 6))), (X 7, .inl (gI g, 24, .inl (V 7))), (X 8, .inl (gI g, 24, .inl (V 8)))] := D_same hD rfl
  exact hret _ _ _ _ hP hS dX3_falseAlarms_7

set_option maxHeartbeats 4000000 in
set_option maxRecDepth 100000 in
/-- falseAlarms_1 -/
theorem c_X3_falseAlarms_1 (l : Launch) (g : gT) (h : Nat) (X : Nat → Nat) (V : Nat → Nat → Int32) (th : Int32) (lc ec : Nat) (hlc : lc ≤ 12) (hec : ec ≤ 24) (x : Int32) (hxb : inB x lc = false) (y : Int32) : wM g l yX3_falseAlarms wsX3_falseAlarms { frames := 4, cells := 0, slots := 0, locals := 96 } [.ref (h), .int (x), .int (y)] (mdW g h X V th lc ec) (some (.int (0))) (mdW g h X V 1 lc ec) := by
  refine wr_ofI (cc := cX3_falseAlarms) (maxL := 3) (by decide) rfl (Nat.le_of_ble_eq_true rfl) ?_
  intro p e s m args below meth c H0 ls A Q hx hb hml hts hown hK hP hD hS hl hret
  have hl : lv_has ls 3 [(0, .ref (h)), (1, .int (x)), (2, .int (y))] := hl
  have S : CallFix p m c cX3_falseAlarms 3 s args wsX3_falseAlarms RX3 := ⟨hx, hb, hml, hown, hts⟩
  obtain ⟨H, eH⟩ : ∃ H : Heap, H = H0 := ⟨_, rfl⟩
  rw [← eH] at hP ⊢
  have hS : va_S A H0 H [] := by rw [eH]; exact hS
  have hP : va_P (gD g) vwCl [(h, .inr (3, [.int (th), .int (nI lc), .ref (X 0), .ref (X 1), .int (nI ec), .ref (X 2), .ref (X 3), .ref (X 4), .ref (X 5), .ref (X 6), .ref (X 7), .ref (X 8)])), (X 0, .inl (gI g, 12, .inl (V 0))), (X 1, .inl (gI g, 480, .inl (V 1))), (X 2, .inl (gI g, 24, .inl (V 2))), (X 3, .inl (gI g, 24, .inl (V 3))), (X 4, .inl (gI g, 24, .inl (V 4))), (X 5, .inl (gI g, 192, .inl (V 5))), (X 6, .inl (gI g, 24, .inl (V 6))), (X 7, .inl (gI g, 24, .inl (V 7))), (X 8, .inl (gI g, 24, .inl (V 8)))] H := hP
  have hD : va_D A [(h, .inr (3, [.int (th), .int (nI lc), .ref (X 0), .ref (X 1), .int (nI ec), .ref (X 2), .ref (X 3), .ref (X 4), .ref (X 5), .ref (X 6), .ref (X 7), .ref (X 8)])), (X 0, .inl (gI g, 12, .inl (V 0))), (X 1, .inl (gI g, 480, .inl (V 1))), (X 2, .inl (gI g, 24, .inl (V 2))), (X 3, .inl (gI g, 24, .inl (V 3))), (X 4, .inl (gI g, 24, .inl (V 4))), (X 5, .inl (gI g, 192, .inl (V 5))), (X 6, .inl (gI g, 24, .inl (V 6))), (X 7, .inl (gI g, 24, .inl (V 7))), (X 8, .inl (gI g, 24, .inl (V 8)))] := hD
  refine lv_aload_n hx hb dX3_falseAlarms_0 rfl (lv_at hl 0 rfl) ?_
  refine lv_iload_n hx hb dX3_falseAlarms_1 rfl (lv_at hl 1 rfl) ?_
  refine lv_iload_n hx hb dX3_falseAlarms_2 rfl (lv_at hl 2 rfl) ?_
  refine lv_iconst (v := 1) hx hb dX3_falseAlarms_3 (by decide +kernel) ?_
  refine w_V (As := [.int (x), .int (y), .int (1)]) (rest := []) S (c_X3_pairsOf1_1 l g h X V th lc ec hlc hec x hxb y) (cwV 3 hts gX3_falseAlarms_X3_pairsOf rfl rfl rfl (by decide +kernel) ⟨Nat.le_of_ble_eq_true rfl, Nat.le_of_ble_eq_true rfl⟩) hK (va_recv hK.1 hP (ci := 3) (q0 := 0) rfl rfl) hP (hD.weaken (fun _ _ _ _ => trivial)) hS (wA_D hD [0, 1, 2, 3, 4, 5, 6, 7, 8, 9] rfl) rfl hl.1 rfl (Nat.le_of_ble_eq_true rfl) dX3_falseAlarms_4 ⟨Nat.le_of_ble_eq_true rfl, Nat.le_of_ble_eq_true rfl⟩ (fun H locs hP1 hz1 hk1 hS => ?_)
  have hP : va_P (gD g) vwCl [(h, .inr (3, [.int (1), .int (nI lc), .ref (X 0), .ref (X 1), .int (nI ec), .ref (X 2), .ref (X 3), .ref (X 4), .ref (X 5), .ref (X 6), .ref (X 7), .ref (X 8)])), (X 0, .inl (gI g, 12, .inl (V 0))), (X 1, .inl (gI g, 480, .inl (V 1))), (X 2, .inl (gI g, 24, .inl (V 2))), (X 3, .inl (gI g, 24, .inl (V 3))), (X 4, .inl (gI g, 24, .inl (V 4))), (X 5, .inl (gI g, 192, .inl (V 5))), (X 6, .inl (gI g, 24, .inl (V 6))), (X 7, .inl (gI g, 24, .inl (V 7))), (X 8, .inl (gI g, 24, .inl (V 8)))] H := hP1
  have hD : va_D A [(h, .inr (3, [.int (1), .int (nI lc), .ref (X 0), .ref (X 1), .int (nI ec), .ref (X 2), .ref (X 3), .ref (X 4), .ref (X 5), .ref (X 6), .ref (X 7), .ref (X 8)])), (X 0, .inl (gI g, 12, .inl (V 0))), (X 1, .inl (gI g, 480, .inl (V 1))), (X 2, .inl (gI g, 24, .inl (V 2))), (X 3, .inl (gI g, 24, .inl (V 3))), (X 4, .inl (gI g, 24, .inl (V 4))), (X 5, .inl (gI g, 192, .inl (V 5))), (X 6, .inl (gI g, 24, .inl (V 6))), (X 7, .inl (gI g, 24, .inl (V 7))), (X 8, .inl (gI g, 24, .inl (V 8)))] := D_same hD rfl
  exact hret _ _ _ _ hP hS dX3_falseAlarms_7

set_option maxHeartbeats 4000000 in
set_option maxRecDepth 100000 in
/-- falseAlarms_2 -/
theorem c_X3_falseAlarms_2 (l : Launch) (g : gT) (h : Nat) (X : Nat → Nat) (V : Nat → Nat → Int32) (th : Int32) (lc ec : Nat) (NN : Nat → Nat) (hlc : lc ≤ 12) (hec : ec ≤ 24) (hNN : ∀ i, i < lc → V 0 i = nI (NN i) ∧ NN i ≤ 40) (k : Nat) (hk : k < lc) (y : Int32) (hy : (decide (1 ≤ y) && decide (y ≤ 40)) = false) : wM g l yX3_falseAlarms wsX3_falseAlarms { frames := 4, cells := 0, slots := 0, locals := 96 } [.ref (h), .int (nI k), .int (y)] (mdW g h X V th lc ec) (some (.int (0))) (mdW g h X V 2 lc ec) := by
  refine wr_ofI (cc := cX3_falseAlarms) (maxL := 3) (by decide) rfl (Nat.le_of_ble_eq_true rfl) ?_
  intro p e s m args below meth c H0 ls A Q hx hb hml hts hown hK hP hD hS hl hret
  have hl : lv_has ls 3 [(0, .ref (h)), (1, .int (nI k)), (2, .int (y))] := hl
  have S : CallFix p m c cX3_falseAlarms 3 s args wsX3_falseAlarms RX3 := ⟨hx, hb, hml, hown, hts⟩
  obtain ⟨H, eH⟩ : ∃ H : Heap, H = H0 := ⟨_, rfl⟩
  rw [← eH] at hP ⊢
  have hS : va_S A H0 H [] := by rw [eH]; exact hS
  have hP : va_P (gD g) vwCl [(h, .inr (3, [.int (th), .int (nI lc), .ref (X 0), .ref (X 1), .int (nI ec), .ref (X 2), .ref (X 3), .ref (X 4), .ref (X 5), .ref (X 6), .ref (X 7), .ref (X 8)])), (X 0, .inl (gI g, 12, .inl (V 0))), (X 1, .inl (gI g, 480, .inl (V 1))), (X 2, .inl (gI g, 24, .inl (V 2))), (X 3, .inl (gI g, 24, .inl (V 3))), (X 4, .inl (gI g, 24, .inl (V 4))), (X 5, .inl (gI g, 192, .inl (V 5))), (X 6, .inl (gI g, 24, .inl (V 6))), (X 7, .inl (gI g, 24, .inl (V 7))), (X 8, .inl (gI g, 24, .inl (V 8)))] H := hP
  have hD : va_D A [(h, .inr (3, [.int (th), .int (nI lc), .ref (X 0), .ref (X 1), .int (nI ec), .ref (X 2), .ref (X 3), .ref (X 4), .ref (X 5), .ref (X 6), .ref (X 7), .ref (X 8)])), (X 0, .inl (gI g, 12, .inl (V 0))), (X 1, .inl (gI g, 480, .inl (V 1))), (X 2, .inl (gI g, 24, .inl (V 2))), (X 3, .inl (gI g, 24, .inl (V 3))), (X 4, .inl (gI g, 24, .inl (V 4))), (X 5, .inl (gI g, 192, .inl (V 5))), (X 6, .inl (gI g, 24, .inl (V 6))), (X 7, .inl (gI g, 24, .inl (V 7))), (X 8, .inl (gI g, 24, .inl (V 8)))] := hD
  refine lv_aload_n hx hb dX3_falseAlarms_0 rfl (lv_at hl 0 rfl) ?_
  refine lv_iload_n hx hb dX3_falseAlarms_1 rfl (lv_at hl 1 rfl) ?_
  refine lv_iload_n hx hb dX3_falseAlarms_2 rfl (lv_at hl 2 rfl) ?_
  refine lv_iconst (v := 1) hx hb dX3_falseAlarms_3 (by decide +kernel) ?_
  refine w_V (As := [.int (nI k), .int (y), .int (1)]) (rest := []) S (c_X3_pairsOf1_2 l g h X V th lc ec NN hlc hec hNN k hk y hy) (cwV 3 hts gX3_falseAlarms_X3_pairsOf rfl rfl rfl (by decide +kernel) ⟨Nat.le_of_ble_eq_true rfl, Nat.le_of_ble_eq_true rfl⟩) hK (va_recv hK.1 hP (ci := 3) (q0 := 0) rfl rfl) hP (hD.weaken (fun _ _ _ _ => trivial)) hS (wA_D hD [0, 1, 2, 3, 4, 5, 6, 7, 8, 9] rfl) rfl hl.1 rfl (Nat.le_of_ble_eq_true rfl) dX3_falseAlarms_4 ⟨Nat.le_of_ble_eq_true rfl, Nat.le_of_ble_eq_true rfl⟩ (fun H locs hP1 hz1 hk1 hS => ?_)
  have hP : va_P (gD g) vwCl [(h, .inr (3, [.int (2), .int (nI lc), .ref (X 0), .ref (X 1), .int (nI ec), .ref (X 2), .ref (X 3), .ref (X 4), .ref (X 5), .ref (X 6), .ref (X 7), .ref (X 8)])), (X 0, .inl (gI g, 12, .inl (V 0))), (X 1, .inl (gI g, 480, .inl (V 1))), (X 2, .inl (gI g, 24, .inl (V 2))), (X 3, .inl (gI g, 24, .inl (V 3))), (X 4, .inl (gI g, 24, .inl (V 4))), (X 5, .inl (gI g, 192, .inl (V 5))), (X 6, .inl (gI g, 24, .inl (V 6))), (X 7, .inl (gI g, 24, .inl (V 7))), (X 8, .inl (gI g, 24, .inl (V 8)))] H := hP1
  have hD : va_D A [(h, .inr (3, [.int (2), .int (nI lc), .ref (X 0), .ref (X 1), .int (nI ec), .ref (X 2), .ref (X 3), .ref (X 4), .ref (X 5), .ref (X 6), .ref (X 7), .ref (X 8)])), (X 0, .inl (gI g, 12, .inl (V 0))), (X 1, .inl (gI g, 480, .inl (V 1))), (X 2, .inl (gI g, 24, .inl (V 2))), (X 3, .inl (gI g, 24, .inl (V 3))), (X 4, .inl (gI g, 24, .inl (V 4))), (X 5, .inl (gI g, 192, .inl (V 5))), (X 6, .inl (gI g, 24, .inl (V 6))), (X 7, .inl (gI g, 24, .inl (V 7))), (X 8, .inl (gI g, 24, .inl (V 8)))] := D_same hD rfl
  exact hret _ _ _ _ hP hS dX3_falseAlarms_7

set_option maxHeartbeats 4000000 in
set_option maxRecDepth 100000 in
/-- firstOf -/
theorem c_X3_firstOf (l : Launch) (g : gT) (h : Nat) (X : Nat → Nat) (V : Nat → Nat → Int32) (th : Int32) (lc ec : Nat) (NN : Nat → Nat) (hlc : lc ≤ 12) (hec : ec ≤ 24) (hNN : ∀ i, i < lc → V 0 i = nI (NN i) ∧ NN i ≤ 40) (k : Nat) (hk : k < lc) (k2 : Nat) (hk2 : k2 < lc) (hn1 : 0 < NN k2) : wM g l yX3_firstOf wsX3_firstOf { frames := 3, cells := 0, slots := 0, locals := 69 } [.ref (h), .int (nI k), .int (nI k2)] (mdW g h X V th lc ec) (some (.int (fsF (fun j => eqR (rwV V k) j (rwV V k2) 0 (NN k2)) (NN k + 1 - NN k2) 0))) (mdW g h X V 0 lc ec) := by
  refine wr_ofI (cc := cX3_firstOf) (maxL := 3) (by decide) rfl (Nat.le_of_ble_eq_true rfl) ?_
  intro p e s m args below meth c H0 ls A Q hx hb hml hts hown hK hP hD hS hl hret
  have hl : lv_has ls 3 [(0, .ref (h)), (1, .int (nI k)), (2, .int (nI k2))] := hl
  have S : CallFix p m c cX3_firstOf 3 s args wsX3_firstOf RX3 := ⟨hx, hb, hml, hown, hts⟩
  have hgk : inB (nI k) lc = true := inB_nI hk (by omega)
  have hVn := (hNN k hk).1
  have hn := (hNN k hk).2
  have hgk2 : inB (nI k2) lc = true := inB_nI hk2 (by omega)
  have hVn2 := (hNN k2 hk2).1
  have hn2 := (hNN k2 hk2).2
  have iX3 : ∀ w ∈ u_ws RX3 TX3 12, w ∈ wsX3_firstOf := by decide +kernel
  have f9 := hts (.fieldLink RX3 9 "LetterSealsModel" "many" "[I") (by decide +kernel)
  have f37 := hts (.fieldLink RX3 37 "LetterSealsModel" "thrown" "I") (by decide +kernel)
  obtain ⟨H, eH⟩ : ∃ H : Heap, H = H0 := ⟨_, rfl⟩
  rw [← eH] at hP ⊢
  have hS : va_S A H0 H [] := by rw [eH]; exact hS
  have hP : va_P (gD g) vwCl [(h, .inr (3, [.int (th), .int (nI lc), .ref (X 0), .ref (X 1), .int (nI ec), .ref (X 2), .ref (X 3), .ref (X 4), .ref (X 5), .ref (X 6), .ref (X 7), .ref (X 8)])), (X 0, .inl (gI g, 12, .inl (V 0))), (X 1, .inl (gI g, 480, .inl (V 1))), (X 2, .inl (gI g, 24, .inl (V 2))), (X 3, .inl (gI g, 24, .inl (V 3))), (X 4, .inl (gI g, 24, .inl (V 4))), (X 5, .inl (gI g, 192, .inl (V 5))), (X 6, .inl (gI g, 24, .inl (V 6))), (X 7, .inl (gI g, 24, .inl (V 7))), (X 8, .inl (gI g, 24, .inl (V 8)))] H := hP
  have hD : va_D A [(h, .inr (3, [.int (th), .int (nI lc), .ref (X 0), .ref (X 1), .int (nI ec), .ref (X 2), .ref (X 3), .ref (X 4), .ref (X 5), .ref (X 6), .ref (X 7), .ref (X 8)])), (X 0, .inl (gI g, 12, .inl (V 0))), (X 1, .inl (gI g, 480, .inl (V 1))), (X 2, .inl (gI g, 24, .inl (V 2))), (X 3, .inl (gI g, 24, .inl (V 3))), (X 4, .inl (gI g, 24, .inl (V 4))), (X 5, .inl (gI g, 192, .inl (V 5))), (X 6, .inl (gI g, 24, .inl (V 6))), (X 7, .inl (gI g, 24, .inl (V 7))), (X 8, .inl (gI g, 24, .inl (V 8)))] := hD
  refine lv_aload_n hx hb dX3_firstOf_0 rfl (lv_at hl 0 rfl) ?_
  refine lv_iconst (v := 0) hx hb dX3_firstOf_1 (by decide +kernel) ?_
  refine va_put (D := gD g) (ci := 3) (v := .int (0)) (ty := .int) (C := RX3) (T := TX3) (N := 12) hx hb hts iX3 tyX3 tyX3_ok nmX3 hown hK.1 hP hD hS 0 rfl rfl 0 (by decide) f37 (fun _ h9 => h9) rfl (by decide +kernel) rfl rfl (Nat.le_of_ble_eq_true rfl) dX3_firstOf_2 (fun H locs hP hD hS => ?_)
  have hP : va_P (gD g) vwCl [(h, .inr (3, [.int (0), .int (nI lc), .ref (X 0), .ref (X 1), .int (nI ec), .ref (X 2), .ref (X 3), .ref (X 4), .ref (X 5), .ref (X 6), .ref (X 7), .ref (X 8)])), (X 0, .inl (gI g, 12, .inl (V 0))), (X 1, .inl (gI g, 480, .inl (V 1))), (X 2, .inl (gI g, 24, .inl (V 2))), (X 3, .inl (gI g, 24, .inl (V 3))), (X 4, .inl (gI g, 24, .inl (V 4))), (X 5, .inl (gI g, 192, .inl (V 5))), (X 6, .inl (gI g, 24, .inl (V 6))), (X 7, .inl (gI g, 24, .inl (V 7))), (X 8, .inl (gI g, 24, .inl (V 8)))] H := hP
  have hD : va_D A [(h, .inr (3, [.int (0), .int (nI lc), .ref (X 0), .ref (X 1), .int (nI ec), .ref (X 2), .ref (X 3), .ref (X 4), .ref (X 5), .ref (X 6), .ref (X 7), .ref (X 8)])), (X 0, .inl (gI g, 12, .inl (V 0))), (X 1, .inl (gI g, 480, .inl (V 1))), (X 2, .inl (gI g, 24, .inl (V 2))), (X 3, .inl (gI g, 24, .inl (V 3))), (X 4, .inl (gI g, 24, .inl (V 4))), (X 5, .inl (gI g, 192, .inl (V 5))), (X 6, .inl (gI g, 24, .inl (V 6))), (X 7, .inl (gI g, 24, .inl (V 7))), (X 8, .inl (gI g, 24, .inl (V 8)))] := hD
  refine lv_aload_n hx hb dX3_firstOf_5 rfl (lv_at hl 0 rfl) ?_
  refine lv_iload_n hx hb dX3_firstOf_6 rfl (lv_at hl 1 rfl) ?_
  refine p_V (As := [.int (nI k)]) (rest := []) S (c_X3_isLetter l g h X V 0 lc ec (nI k) hlc hec) (cwV 1 hts gX3_firstOf_X3_isLetter rfl rfl rfl (by decide +kernel) ⟨Nat.le_of_ble_eq_true rfl, Nat.le_of_ble_eq_true rfl⟩) hK (va_recv hK.1 hP (ci := 3) (q0 := 0) rfl rfl) (hP) rfl hl.1 rfl (Nat.le_of_ble_eq_true rfl) dX3_firstOf_7 ⟨Nat.le_of_ble_eq_true rfl, Nat.le_of_ble_eq_true rfl⟩ ?_
  refine br_eqB (tgt := 21) hx hb dX3_firstOf_10 (by decide) (fun c10 => ?_) (fun c10 => ?_)
  · exact absurd c10 (by rw [hgk]; decide)
  · refine lv_aload_n hx hb dX3_firstOf_13 rfl (lv_at hl 0 rfl) ?_
    refine lv_iload_n hx hb dX3_firstOf_14 rfl (lv_at hl 2 rfl) ?_
    refine p_V (As := [.int (nI k2)]) (rest := []) S (c_X3_isLetter l g h X V 0 lc ec (nI k2) hlc hec) (cwV 1 hts gX3_firstOf_X3_isLetter rfl rfl rfl (by decide +kernel) ⟨Nat.le_of_ble_eq_true rfl, Nat.le_of_ble_eq_true rfl⟩) hK (va_recv hK.1 hP (ci := 3) (q0 := 0) rfl rfl) (hP) rfl hl.1 rfl (Nat.le_of_ble_eq_true rfl) dX3_firstOf_15 ⟨Nat.le_of_ble_eq_true rfl, Nat.le_of_ble_eq_true rfl⟩ ?_
    refine br_neB (tgt := 27) hx hb dX3_firstOf_18 (by decide) (fun c18 => ?_) (fun c18 => ?_)
    · refine lv_aload_n hx hb dX3_firstOf_27 rfl (lv_at hl 0 rfl) ?_
      refine va_get (D := gD g) (ci := 3) (v := .ref (X 0)) (C := RX3) (T := TX3) (N := 12) hx hb hts iX3 hown hK.1 hP 0 rfl rfl 2 (by decide) f9 (fun _ h9 => h9) rfl dX3_firstOf_28 ?_
      refine lv_iload_n hx hb dX3_firstOf_31 rfl (lv_at hl 2 rfl) ?_
      refine ld_I (k := k2) (n := 12) (f := V 0) hx hb hK.1 hP 1 rfl (by omega) (by omega) dX3_firstOf_32 ?_
      refine lv_toI (z := nI (NN k2)) (hVn2) ?_
      refine br_ne0 (a := NN k2) (tgt := 44) hx hb (by omega) dX3_firstOf_33 (by decide) (fun c33 => ?_) (fun c33 => ?_)
      · refine lv_aload_n hx hb dX3_firstOf_44 rfl (lv_at hl 0 rfl) ?_
        refine lv_iload_n hx hb dX3_firstOf_45 rfl (lv_at hl 1 rfl) ?_
        refine lv_iload_n hx hb dX3_firstOf_46 rfl (lv_at hl 2 rfl) ?_
        refine p_V (As := [.int (nI k), .int (nI k2)]) (rest := []) S (c_X3_first l g h X V 0 lc ec NN hlc hec hNN k hk k2 hk2) (cwV 2 hts gX3_firstOf_X3_first rfl rfl rfl (by decide +kernel) ⟨Nat.le_of_ble_eq_true rfl, Nat.le_of_ble_eq_true rfl⟩) hK (va_recv hK.1 hP (ci := 3) (q0 := 0) rfl rfl) (hP) rfl hl.1 rfl (Nat.le_of_ble_eq_true rfl) dX3_firstOf_47 ⟨Nat.le_of_ble_eq_true rfl, Nat.le_of_ble_eq_true rfl⟩ ?_
        exact hret _ _ _ _ hP hS dX3_firstOf_50
      · omega
    · exact absurd c18 (by rw [hgk2]; decide)

set_option maxHeartbeats 4000000 in
set_option maxRecDepth 100000 in
/-- firstOf_1 -/
theorem c_X3_firstOf_1 (l : Launch) (g : gT) (h : Nat) (X : Nat → Nat) (V : Nat → Nat → Int32) (th : Int32) (lc ec : Nat) (hlc : lc ≤ 12) (hec : ec ≤ 24) (x : Int32) (hxb : inB x lc = false) (y : Int32) : wM g l yX3_firstOf wsX3_firstOf { frames := 3, cells := 0, slots := 0, locals := 69 } [.ref (h), .int (x), .int (y)] (mdW g h X V th lc ec) (some (.int (0))) (mdW g h X V 1 lc ec) := by
  refine wr_ofI (cc := cX3_firstOf) (maxL := 3) (by decide) rfl (Nat.le_of_ble_eq_true rfl) ?_
  intro p e s m args below meth c H0 ls A Q hx hb hml hts hown hK hP hD hS hl hret
  have hl : lv_has ls 3 [(0, .ref (h)), (1, .int (x)), (2, .int (y))] := hl
  have S : CallFix p m c cX3_firstOf 3 s args wsX3_firstOf RX3 := ⟨hx, hb, hml, hown, hts⟩
  have iX3 : ∀ w ∈ u_ws RX3 TX3 12, w ∈ wsX3_firstOf := by decide +kernel
  have f37 := hts (.fieldLink RX3 37 "LetterSealsModel" "thrown" "I") (by decide +kernel)
  obtain ⟨H, eH⟩ : ∃ H : Heap, H = H0 := ⟨_, rfl⟩
  rw [← eH] at hP ⊢
  have hS : va_S A H0 H [] := by rw [eH]; exact hS
  have hP : va_P (gD g) vwCl [(h, .inr (3, [.int (th), .int (nI lc), .ref (X 0), .ref (X 1), .int (nI ec), .ref (X 2), .ref (X 3), .ref (X 4), .ref (X 5), .ref (X 6), .ref (X 7), .ref (X 8)])), (X 0, .inl (gI g, 12, .inl (V 0))), (X 1, .inl (gI g, 480, .inl (V 1))), (X 2, .inl (gI g, 24, .inl (V 2))), (X 3, .inl (gI g, 24, .inl (V 3))), (X 4, .inl (gI g, 24, .inl (V 4))), (X 5, .inl (gI g, 192, .inl (V 5))), (X 6, .inl (gI g, 24, .inl (V 6))), (X 7, .inl (gI g, 24, .inl (V 7))), (X 8, .inl (gI g, 24, .inl (V 8)))] H := hP
  have hD : va_D A [(h, .inr (3, [.int (th), .int (nI lc), .ref (X 0), .ref (X 1), .int (nI ec), .ref (X 2), .ref (X 3), .ref (X 4), .ref (X 5), .ref (X 6), .ref (X 7), .ref (X 8)])), (X 0, .inl (gI g, 12, .inl (V 0))), (X 1, .inl (gI g, 480, .inl (V 1))), (X 2, .inl (gI g, 24, .inl (V 2))), (X 3, .inl (gI g, 24, .inl (V 3))), (X 4, .inl (gI g, 24, .inl (V 4))), (X 5, .inl (gI g, 192, .inl (V 5))), (X 6, .inl (gI g, 24, .inl (V 6))), (X 7, .inl (gI g, 24, .inl (V 7))), (X 8, .inl (gI g, 24, .inl (V 8)))] := hD
  refine lv_aload_n hx hb dX3_firstOf_0 rfl (lv_at hl 0 rfl) ?_
  refine lv_iconst (v := 0) hx hb dX3_firstOf_1 (by decide +kernel) ?_
  refine va_put (D := gD g) (ci := 3) (v := .int (0)) (ty := .int) (C := RX3) (T := TX3) (N := 12) hx hb hts iX3 tyX3 tyX3_ok nmX3 hown hK.1 hP hD hS 0 rfl rfl 0 (by decide) f37 (fun _ h9 => h9) rfl (by decide +kernel) rfl rfl (Nat.le_of_ble_eq_true rfl) dX3_firstOf_2 (fun H locs hP hD hS => ?_)
  have hP : va_P (gD g) vwCl [(h, .inr (3, [.int (0), .int (nI lc), .ref (X 0), .ref (X 1), .int (nI ec), .ref (X 2), .ref (X 3), .ref (X 4), .ref (X 5), .ref (X 6), .ref (X 7), .ref (X 8)])), (X 0, .inl (gI g, 12, .inl (V 0))), (X 1, .inl (gI g, 480, .inl (V 1))), (X 2, .inl (gI g, 24, .inl (V 2))), (X 3, .inl (gI g, 24, .inl (V 3))), (X 4, .inl (gI g, 24, .inl (V 4))), (X 5, .inl (gI g, 192, .inl (V 5))), (X 6, .inl (gI g, 24, .inl (V 6))), (X 7, .inl (gI g, 24, .inl (V 7))), (X 8, .inl (gI g, 24, .inl (V 8)))] H := hP
  have hD : va_D A [(h, .inr (3, [.int (0), .int (nI lc), .ref (X 0), .ref (X 1), .int (nI ec), .ref (X 2), .ref (X 3), .ref (X 4), .ref (X 5), .ref (X 6), .ref (X 7), .ref (X 8)])), (X 0, .inl (gI g, 12, .inl (V 0))), (X 1, .inl (gI g, 480, .inl (V 1))), (X 2, .inl (gI g, 24, .inl (V 2))), (X 3, .inl (gI g, 24, .inl (V 3))), (X 4, .inl (gI g, 24, .inl (V 4))), (X 5, .inl (gI g, 192, .inl (V 5))), (X 6, .inl (gI g, 24, .inl (V 6))), (X 7, .inl (gI g, 24, .inl (V 7))), (X 8, .inl (gI g, 24, .inl (V 8)))] := hD
  refine lv_aload_n hx hb dX3_firstOf_5 rfl (lv_at hl 0 rfl) ?_
  refine lv_iload_n hx hb dX3_firstOf_6 rfl (lv_at hl 1 rfl) ?_
  refine p_V (As := [.int (x)]) (rest := []) S (c_X3_isLetter l g h X V 0 lc ec (x) hlc hec) (cwV 1 hts gX3_firstOf_X3_isLetter rfl rfl rfl (by decide +kernel) ⟨Nat.le_of_ble_eq_true rfl, Nat.le_of_ble_eq_true rfl⟩) hK (va_recv hK.1 hP (ci := 3) (q0 := 0) rfl rfl) (hP) rfl hl.1 rfl (Nat.le_of_ble_eq_true rfl) dX3_firstOf_7 ⟨Nat.le_of_ble_eq_true rfl, Nat.le_of_ble_eq_true rfl⟩ ?_
  refine br_eqB (tgt := 21) hx hb dX3_firstOf_10 (by decide) (fun c10 => ?_) (fun c10 => ?_)
  · refine lv_aload_n hx hb dX3_firstOf_21 rfl (lv_at hl 0 rfl) ?_
    refine lv_iconst (v := 1) hx hb dX3_firstOf_22 (by decide +kernel) ?_
    refine w_V (As := [.int (1)]) (rest := []) S (c_X3_no l g h X V 0 lc ec (1)) (cwV 1 hts gX3_firstOf_X3_no rfl rfl rfl (by decide +kernel) ⟨Nat.le_of_ble_eq_true rfl, Nat.le_of_ble_eq_true rfl⟩) hK (va_recv hK.1 hP (ci := 3) (q0 := 0) rfl rfl) hP (hD.weaken (fun _ _ _ _ => trivial)) hS (wA_D hD [0, 1, 2, 3, 4, 5, 6, 7, 8, 9] rfl) rfl hl.1 rfl (Nat.le_of_ble_eq_true rfl) dX3_firstOf_23 ⟨Nat.le_of_ble_eq_true rfl, Nat.le_of_ble_eq_true rfl⟩ (fun H locs hP1 hz1 hk1 hS => ?_)
    have hP : va_P (gD g) vwCl [(h, .inr (3, [.int (1), .int (nI lc), .ref (X 0), .ref (X 1), .int (nI ec), .ref (X 2), .ref (X 3), .ref (X 4), .ref (X 5), .ref (X 6), .ref (X 7), .ref (X 8)])), (X 0, .inl (gI g, 12, .inl (V 0))), (X 1, .inl (gI g, 480, .inl (V 1))), (X 2, .inl (gI g, 24, .inl (V 2))), (X 3, .inl (gI g, 24, .inl (V 3))), (X 4, .inl (gI g, 24, .inl (V 4))), (X 5, .inl (gI g, 192, .inl (V 5))), (X 6, .inl (gI g, 24, .inl (V 6))), (X 7, .inl (gI g, 24, .inl (V 7))), (X 8, .inl (gI g, 24, .inl (V 8)))] H := hP1
    have hD : va_D A [(h, .inr (3, [.int (1), .int (nI lc), .ref (X 0), .ref (X 1), .int (nI ec), .ref (X 2), .ref (X 3), .ref (X 4), .ref (X 5), .ref (X 6), .ref (X 7), .ref (X 8)])), (X 0, .inl (gI g, 12, .inl (V 0))), (X 1, .inl (gI g, 480, .inl (V 1))), (X 2, .inl (gI g, 24, .inl (V 2))), (X 3, .inl (gI g, 24, .inl (V 3))), (X 4, .inl (gI g, 24, .inl (V 4))), (X 5, .inl (gI g, 192, .inl (V 5))), (X 6, .inl (gI g, 24, .inl (V 6))), (X 7, .inl (gI g, 24, .inl (V 7))), (X 8, .inl (gI g, 24, .inl (V 8)))] := D_same hD rfl
    exact hret _ _ _ _ hP hS dX3_firstOf_26
  · exact absurd c10 (by rw [hxb]; decide)

set_option maxHeartbeats 4000000 in
set_option maxRecDepth 100000 in
/-- firstOf_1b -/
theorem c_X3_firstOf_1b (l : Launch) (g : gT) (h : Nat) (X : Nat → Nat) (V : Nat → Nat → Int32) (th : Int32) (lc ec : Nat) (NN : Nat → Nat) (hlc : lc ≤ 12) (hec : ec ≤ 24) (hNN : ∀ i, i < lc → V 0 i = nI (NN i) ∧ NN i ≤ 40) (k : Nat) (hk : k < lc) (y : Int32) (hy : inB y lc = false) : wM g l yX3_firstOf wsX3_firstOf { frames := 3, cells := 0, slots := 0, locals := 69 } [.ref (h), .int (nI k), .int (y)] (mdW g h X V th lc ec) (some (.int (0))) (mdW g h X V 1 lc ec) := by
  refine wr_ofI (cc := cX3_firstOf) (maxL := 3) (by decide) rfl (Nat.le_of_ble_eq_true rfl) ?_
  intro p e s m args below meth c H0 ls A Q hx hb hml hts hown hK hP hD hS hl hret
  have hl : lv_has ls 3 [(0, .ref (h)), (1, .int (nI k)), (2, .int (y))] := hl
  have S : CallFix p m c cX3_firstOf 3 s args wsX3_firstOf RX3 := ⟨hx, hb, hml, hown, hts⟩
  have hgk : inB (nI k) lc = true := inB_nI hk (by omega)
  have hVn := (hNN k hk).1
  have hn := (hNN k hk).2
  have iX3 : ∀ w ∈ u_ws RX3 TX3 12, w ∈ wsX3_firstOf := by decide +kernel
  have f37 := hts (.fieldLink RX3 37 "LetterSealsModel" "thrown" "I") (by decide +kernel)
  obtain ⟨H, eH⟩ : ∃ H : Heap, H = H0 := ⟨_, rfl⟩
  rw [← eH] at hP ⊢
  have hS : va_S A H0 H [] := by rw [eH]; exact hS
  have hP : va_P (gD g) vwCl [(h, .inr (3, [.int (th), .int (nI lc), .ref (X 0), .ref (X 1), .int (nI ec), .ref (X 2), .ref (X 3), .ref (X 4), .ref (X 5), .ref (X 6), .ref (X 7), .ref (X 8)])), (X 0, .inl (gI g, 12, .inl (V 0))), (X 1, .inl (gI g, 480, .inl (V 1))), (X 2, .inl (gI g, 24, .inl (V 2))), (X 3, .inl (gI g, 24, .inl (V 3))), (X 4, .inl (gI g, 24, .inl (V 4))), (X 5, .inl (gI g, 192, .inl (V 5))), (X 6, .inl (gI g, 24, .inl (V 6))), (X 7, .inl (gI g, 24, .inl (V 7))), (X 8, .inl (gI g, 24, .inl (V 8)))] H := hP
  have hD : va_D A [(h, .inr (3, [.int (th), .int (nI lc), .ref (X 0), .ref (X 1), .int (nI ec), .ref (X 2), .ref (X 3), .ref (X 4), .ref (X 5), .ref (X 6), .ref (X 7), .ref (X 8)])), (X 0, .inl (gI g, 12, .inl (V 0))), (X 1, .inl (gI g, 480, .inl (V 1))), (X 2, .inl (gI g, 24, .inl (V 2))), (X 3, .inl (gI g, 24, .inl (V 3))), (X 4, .inl (gI g, 24, .inl (V 4))), (X 5, .inl (gI g, 192, .inl (V 5))), (X 6, .inl (gI g, 24, .inl (V 6))), (X 7, .inl (gI g, 24, .inl (V 7))), (X 8, .inl (gI g, 24, .inl (V 8)))] := hD
  refine lv_aload_n hx hb dX3_firstOf_0 rfl (lv_at hl 0 rfl) ?_
  refine lv_iconst (v := 0) hx hb dX3_firstOf_1 (by decide +kernel) ?_
  refine va_put (D := gD g) (ci := 3) (v := .int (0)) (ty := .int) (C := RX3) (T := TX3) (N := 12) hx hb hts iX3 tyX3 tyX3_ok nmX3 hown hK.1 hP hD hS 0 rfl rfl 0 (by decide) f37 (fun _ h9 => h9) rfl (by decide +kernel) rfl rfl (Nat.le_of_ble_eq_true rfl) dX3_firstOf_2 (fun H locs hP hD hS => ?_)
  have hP : va_P (gD g) vwCl [(h, .inr (3, [.int (0), .int (nI lc), .ref (X 0), .ref (X 1), .int (nI ec), .ref (X 2), .ref (X 3), .ref (X 4), .ref (X 5), .ref (X 6), .ref (X 7), .ref (X 8)])), (X 0, .inl (gI g, 12, .inl (V 0))), (X 1, .inl (gI g, 480, .inl (V 1))), (X 2, .inl (gI g, 24, .inl (V 2))), (X 3, .inl (gI g, 24, .inl (V 3))), (X 4, .inl (gI g, 24, .inl (V 4))), (X 5, .inl (gI g, 192, .inl (V 5))), (X 6, .inl (gI g, 24, .inl (V 6))), (X 7, .inl (gI g, 24, .inl (V 7))), (X 8, .inl (gI g, 24, .inl (V 8)))] H := hP
  have hD : va_D A [(h, .inr (3, [.int (0), .int (nI lc), .ref (X 0), .ref (X 1), .int (nI ec), .ref (X 2), .ref (X 3), .ref (X 4), .ref (X 5), .ref (X 6), .ref (X 7), .ref (X 8)])), (X 0, .inl (gI g, 12, .inl (V 0))), (X 1, .inl (gI g, 480, .inl (V 1))), (X 2, .inl (gI g, 24, .inl (V 2))), (X 3, .inl (gI g, 24, .inl (V 3))), (X 4, .inl (gI g, 24, .inl (V 4))), (X 5, .inl (gI g, 192, .inl (V 5))), (X 6, .inl (gI g, 24, .inl (V 6))), (X 7, .inl (gI g, 24, .inl (V 7))), (X 8, .inl (gI g, 24, .inl (V 8)))] := hD
  refine lv_aload_n hx hb dX3_firstOf_5 rfl (lv_at hl 0 rfl) ?_
  refine lv_iload_n hx hb dX3_firstOf_6 rfl (lv_at hl 1 rfl) ?_
  refine p_V (As := [.int (nI k)]) (rest := []) S (c_X3_isLetter l g h X V 0 lc ec (nI k) hlc hec) (cwV 1 hts gX3_firstOf_X3_isLetter rfl rfl rfl (by decide +kernel) ⟨Nat.le_of_ble_eq_true rfl, Nat.le_of_ble_eq_true rfl⟩) hK (va_recv hK.1 hP (ci := 3) (q0 := 0) rfl rfl) (hP) rfl hl.1 rfl (Nat.le_of_ble_eq_true rfl) dX3_firstOf_7 ⟨Nat.le_of_ble_eq_true rfl, Nat.le_of_ble_eq_true rfl⟩ ?_
  refine br_eqB (tgt := 21) hx hb dX3_firstOf_10 (by decide) (fun c10 => ?_) (fun c10 => ?_)
  · exact absurd c10 (by rw [hgk]; decide)
  · refine lv_aload_n hx hb dX3_firstOf_13 rfl (lv_at hl 0 rfl) ?_
    refine lv_iload_n hx hb dX3_firstOf_14 rfl (lv_at hl 2 rfl) ?_
    refine p_V (As := [.int (y)]) (rest := []) S (c_X3_isLetter l g h X V 0 lc ec (y) hlc hec) (cwV 1 hts gX3_firstOf_X3_isLetter rfl rfl rfl (by decide +kernel) ⟨Nat.le_of_ble_eq_true rfl, Nat.le_of_ble_eq_true rfl⟩) hK (va_recv hK.1 hP (ci := 3) (q0 := 0) rfl rfl) (hP) rfl hl.1 rfl (Nat.le_of_ble_eq_true rfl) dX3_firstOf_15 ⟨Nat.le_of_ble_eq_true rfl, Nat.le_of_ble_eq_true rfl⟩ ?_
    refine br_neB (tgt := 27) hx hb dX3_firstOf_18 (by decide) (fun c18 => ?_) (fun c18 => ?_)
    · exact absurd c18 (by rw [hy]; decide)
    · refine lv_aload_n hx hb dX3_firstOf_21 rfl (lv_at hl 0 rfl) ?_
      refine lv_iconst (v := 1) hx hb dX3_firstOf_22 (by decide +kernel) ?_
      refine w_V (As := [.int (1)]) (rest := []) S (c_X3_no l g h X V 0 lc ec (1)) (cwV 1 hts gX3_firstOf_X3_no rfl rfl rfl (by decide +kernel) ⟨Nat.le_of_ble_eq_true rfl, Nat.le_of_ble_eq_true rfl⟩) hK (va_recv hK.1 hP (ci := 3) (q0 := 0) rfl rfl) hP (hD.weaken (fun _ _ _ _ => trivial)) hS (wA_D hD [0, 1, 2, 3, 4, 5, 6, 7, 8, 9] rfl) rfl hl.1 rfl (Nat.le_of_ble_eq_true rfl) dX3_firstOf_23 ⟨Nat.le_of_ble_eq_true rfl, Nat.le_of_ble_eq_true rfl⟩ (fun H locs hP1 hz1 hk1 hS => ?_)
      have hP : va_P (gD g) vwCl [(h, .inr (3, [.int (1), .int (nI lc), .ref (X 0), .ref (X 1), .int (nI ec), .ref (X 2), .ref (X 3), .ref (X 4), .ref (X 5), .ref (X 6), .ref (X 7), .ref (X 8)])), (X 0, .inl (gI g, 12, .inl (V 0))), (X 1, .inl (gI g, 480, .inl (V 1))), (X 2, .inl (gI g, 24, .inl (V 2))), (X 3, .inl (gI g, 24, .inl (V 3))), (X 4, .inl (gI g, 24, .inl (V 4))), (X 5, .inl (gI g, 192, .inl (V 5))), (X 6, .inl (gI g, 24, .inl (V 6))), (X 7, .inl (gI g, 24, .inl (V 7))), (X 8, .inl (gI g, 24, .inl (V 8)))] H := hP1
      have hD : va_D A [(h, .inr (3, [.int (1), .int (nI lc), .ref (X 0), .ref (X 1), .int (nI ec), .ref (X 2), .ref (X 3), .ref (X 4), .ref (X 5), .ref (X 6), .ref (X 7), .ref (X 8)])), (X 0, .inl (gI g, 12, .inl (V 0))), (X 1, .inl (gI g, 480, .inl (V 1))), (X 2, .inl (gI g, 24, .inl (V 2))), (X 3, .inl (gI g, 24, .inl (V 3))), (X 4, .inl (gI g, 24, .inl (V 4))), (X 5, .inl (gI g, 192, .inl (V 5))), (X 6, .inl (gI g, 24, .inl (V 6))), (X 7, .inl (gI g, 24, .inl (V 7))), (X 8, .inl (gI g, 24, .inl (V 8)))] := D_same hD rfl
      exact hret _ _ _ _ hP hS dX3_firstOf_26

set_option maxHeartbeats 4000000 in
set_option maxRecDepth 100000 in
/-- firstOf_2 -/
theorem c_X3_firstOf_2 (l : Launch) (g : gT) (h : Nat) (X : Nat → Nat) (V : Nat → Nat → Int32) (th : Int32) (lc ec : Nat) (NN : Nat → Nat) (hlc : lc ≤ 12) (hec : ec ≤ 24) (hNN : ∀ i, i < lc → V 0 i = nI (NN i) ∧ NN i ≤ 40) (k : Nat) (hk : k < lc) (k2 : Nat) (hk2 : k2 < lc) (hn1 : NN k2 = 0) : wM g l yX3_firstOf wsX3_firstOf { frames := 3, cells := 0, slots := 0, locals := 69 } [.ref (h), .int (nI k), .int (nI k2)] (mdW g h X V th lc ec) (some (.int (0))) (mdW g h X V 2 lc ec) := by
  refine wr_ofI (cc := cX3_firstOf) (maxL := 3) (by decide) rfl (Nat.le_of_ble_eq_true rfl) ?_
  intro p e s m args below meth c H0 ls A Q hx hb hml hts hown hK hP hD hS hl hret
  have hl : lv_has ls 3 [(0, .ref (h)), (1, .int (nI k)), (2, .int (nI k2))] := hl
  have S : CallFix p m c cX3_firstOf 3 s args wsX3_firstOf RX3 := ⟨hx, hb, hml, hown, hts⟩
  have hgk : inB (nI k) lc = true := inB_nI hk (by omega)
  have hVn := (hNN k hk).1
  have hn := (hNN k hk).2
  have hgk2 : inB (nI k2) lc = true := inB_nI hk2 (by omega)
  have hVn2 := (hNN k2 hk2).1
  have hn2 := (hNN k2 hk2).2
  have iX3 : ∀ w ∈ u_ws RX3 TX3 12, w ∈ wsX3_firstOf := by decide +kernel
  have f9 := hts (.fieldLink RX3 9 "LetterSealsModel" "many" "[I") (by decide +kernel)
  have f37 := hts (.fieldLink RX3 37 "LetterSealsModel" "thrown" "I") (by decide +kernel)
  obtain ⟨H, eH⟩ : ∃ H : Heap, H = H0 := ⟨_, rfl⟩
  rw [← eH] at hP ⊢
  have hS : va_S A H0 H [] := by rw [eH]; exact hS
  have hP : va_P (gD g) vwCl [(h, .inr (3, [.int (th), .int (nI lc), .ref (X 0), .ref (X 1), .int (nI ec), .ref (X 2), .ref (X 3), .ref (X 4), .ref (X 5), .ref (X 6), .ref (X 7), .ref (X 8)])), (X 0, .inl (gI g, 12, .inl (V 0))), (X 1, .inl (gI g, 480, .inl (V 1))), (X 2, .inl (gI g, 24, .inl (V 2))), (X 3, .inl (gI g, 24, .inl (V 3))), (X 4, .inl (gI g, 24, .inl (V 4))), (X 5, .inl (gI g, 192, .inl (V 5))), (X 6, .inl (gI g, 24, .inl (V 6))), (X 7, .inl (gI g, 24, .inl (V 7))), (X 8, .inl (gI g, 24, .inl (V 8)))] H := hP
  have hD : va_D A [(h, .inr (3, [.int (th), .int (nI lc), .ref (X 0), .ref (X 1), .int (nI ec), .ref (X 2), .ref (X 3), .ref (X 4), .ref (X 5), .ref (X 6), .ref (X 7), .ref (X 8)])), (X 0, .inl (gI g, 12, .inl (V 0))), (X 1, .inl (gI g, 480, .inl (V 1))), (X 2, .inl (gI g, 24, .inl (V 2))), (X 3, .inl (gI g, 24, .inl (V 3))), (X 4, .inl (gI g, 24, .inl (V 4))), (X 5, .inl (gI g, 192, .inl (V 5))), (X 6, .inl (gI g, 24, .inl (V 6))), (X 7, .inl (gI g, 24, .inl (V 7))), (X 8, .inl (gI g, 24, .inl (V 8)))] := hD
  refine lv_aload_n hx hb dX3_firstOf_0 rfl (lv_at hl 0 rfl) ?_
  refine lv_iconst (v := 0) hx hb dX3_firstOf_1 (by decide +kernel) ?_
  refine va_put (D := gD g) (ci := 3) (v := .int (0)) (ty := .int) (C := RX3) (T := TX3) (N := 12) hx hb hts iX3 tyX3 tyX3_ok nmX3 hown hK.1 hP hD hS 0 rfl rfl 0 (by decide) f37 (fun _ h9 => h9) rfl (by decide +kernel) rfl rfl (Nat.le_of_ble_eq_true rfl) dX3_firstOf_2 (fun H locs hP hD hS => ?_)
  have hP : va_P (gD g) vwCl [(h, .inr (3, [.int (0), .int (nI lc), .ref (X 0), .ref (X 1), .int (nI ec), .ref (X 2), .ref (X 3), .ref (X 4), .ref (X 5), .ref (X 6), .ref (X 7), .ref (X 8)])), (X 0, .inl (gI g, 12, .inl (V 0))), (X 1, .inl (gI g, 480, .inl (V 1))), (X 2, .inl (gI g, 24, .inl (V 2))), (X 3, .inl (gI g, 24, .inl (V 3))), (X 4, .inl (gI g, 24, .inl (V 4))), (X 5, .inl (gI g, 192, .inl (V 5))), (X 6, .inl (gI g, 24, .inl (V 6))), (X 7, .inl (gI g, 24, .inl (V 7))), (X 8, .inl (gI g, 24, .inl (V 8)))] H := hP
  have hD : va_D A [(h, .inr (3, [.int (0), .int (nI lc), .ref (X 0), .ref (X 1), .int (nI ec), .ref (X 2), .ref (X 3), .ref (X 4), .ref (X 5), .ref (X 6), .ref (X 7), .ref (X 8)])), (X 0, .inl (gI g, 12, .inl (V 0))), (X 1, .inl (gI g, 480, .inl (V 1))), (X 2, .inl (gI g, 24, .inl (V 2))), (X 3, .inl (gI g, 24, .inl (V 3))), (X 4, .inl (gI g, 24, .inl (V 4))), (X 5, .inl (gI g, 192, .inl (V 5))), (X 6, .inl (gI g, 24, .inl (V 6))), (X 7, .inl (gI g, 24, .inl (V 7))), (X 8, .inl (gI g, 24, .inl (V 8)))] := hD
  refine lv_aload_n hx hb dX3_firstOf_5 rfl (lv_at hl 0 rfl) ?_
  refine lv_iload_n hx hb dX3_firstOf_6 rfl (lv_at hl 1 rfl) ?_
  refine p_V (As := [.int (nI k)]) (rest := []) S (c_X3_isLetter l g h X V 0 lc ec (nI k) hlc hec) (cwV 1 hts gX3_firstOf_X3_isLetter rfl rfl rfl (by decide +kernel) ⟨Nat.le_of_ble_eq_true rfl, Nat.le_of_ble_eq_true rfl⟩) hK (va_recv hK.1 hP (ci := 3) (q0 := 0) rfl rfl) (hP) rfl hl.1 rfl (Nat.le_of_ble_eq_true rfl) dX3_firstOf_7 ⟨Nat.le_of_ble_eq_true rfl, Nat.le_of_ble_eq_true rfl⟩ ?_
  refine br_eqB (tgt := 21) hx hb dX3_firstOf_10 (by decide) (fun c10 => ?_) (fun c10 => ?_)
  · exact absurd c10 (by rw [hgk]; decide)
  · refine lv_aload_n hx hb dX3_firstOf_13 rfl (lv_at hl 0 rfl) ?_
    refine lv_iload_n hx hb dX3_firstOf_14 rfl (lv_at hl 2 rfl) ?_
    refine p_V (As := [.int (nI k2)]) (rest := []) S (c_X3_isLetter l g h X V 0 lc ec (nI k2) hlc hec) (cwV 1 hts gX3_firstOf_X3_isLetter rfl rfl rfl (by decide +kernel) ⟨Nat.le_of_ble_eq_true rfl, Nat.le_of_ble_eq_true rfl⟩) hK (va_recv hK.1 hP (ci := 3) (q0 := 0) rfl rfl) (hP) rfl hl.1 rfl (Nat.le_of_ble_eq_true rfl) dX3_firstOf_15 ⟨Nat.le_of_ble_eq_true rfl, Nat.le_of_ble_eq_true rfl⟩ ?_
    refine br_neB (tgt := 27) hx hb dX3_firstOf_18 (by decide) (fun c18 => ?_) (fun c18 => ?_)
    · refine lv_aload_n hx hb dX3_firstOf_27 rfl (lv_at hl 0 rfl) ?_
      refine va_get (D := gD g) (ci := 3) (v := .ref (X 0)) (C := RX3) (T := TX3) (N := 12) hx hb hts iX3 hown hK.1 hP 0 rfl rfl 2 (by decide) f9 (fun _ h9 => h9) rfl dX3_firstOf_28 ?_
      refine lv_iload_n hx hb dX3_firstOf_31 rfl (lv_at hl 2 rfl) ?_
      refine ld_I (k := k2) (n := 12) (f := V 0) hx hb hK.1 hP 1 rfl (by omega) (by omega) dX3_firstOf_32 ?_
      refine lv_toI (z := nI (NN k2)) (hVn2) ?_
      refine br_ne0 (a := NN k2) (tgt := 44) hx hb (by omega) dX3_firstOf_33 (by decide) (fun c33 => ?_) (fun c33 => ?_)
      · omega
      · refine lv_aload_n hx hb dX3_firstOf_36 rfl (lv_at hl 0 rfl) ?_
        refine lv_iconst (v := 2) hx hb dX3_firstOf_37 (by decide +kernel) ?_
        refine w_V (As := [.int (2)]) (rest := []) S (c_X3_no l g h X V 0 lc ec (2)) (cwV 1 hts gX3_firstOf_X3_no rfl rfl rfl (by decide +kernel) ⟨Nat.le_of_ble_eq_true rfl, Nat.le_of_ble_eq_true rfl⟩) hK (va_recv hK.1 hP (ci := 3) (q0 := 0) rfl rfl) hP (hD.weaken (fun _ _ _ _ => trivial)) hS (wA_D hD [0, 1, 2, 3, 4, 5, 6, 7, 8, 9] rfl) rfl hl.1 rfl (Nat.le_of_ble_eq_true rfl) dX3_firstOf_38 ⟨Nat.le_of_ble_eq_true rfl, Nat.le_of_ble_eq_true rfl⟩ (fun H locs hP1 hz1 hk1 hS => ?_)
        have hP : va_P (gD g) vwCl [(h, .inr (3, [.int (2), .int (nI lc), .ref (X 0), .ref (X 1), .int (nI ec), .ref (X 2), .ref (X 3), .ref (X 4), .ref (X 5), .ref (X 6), .ref (X 7), .ref (X 8)])), (X 0, .inl (gI g, 12, .inl (V 0))), (X 1, .inl (gI g, 480, .inl (V 1))), (X 2, .inl (gI g, 24, .inl (V 2))), (X 3, .inl (gI g, 24, .inl (V 3))), (X 4, .inl (gI g, 24, .inl (V 4))), (X 5, .inl (gI g, 192, .inl (V 5))), (X 6, .inl (gI g, 24, .inl (V 6))), (X 7, .inl (gI g, 24, .inl (V 7))), (X 8, .inl (gI g, 24, .inl (V 8)))] H := hP1
        have hD : va_D A [(h, .inr (3, [.int (2), .int (nI lc), .ref (X 0), .ref (X 1), .int (nI ec), .ref (X 2), .ref (X 3), .ref (X 4), .ref (X 5), .ref (X 6), .ref (X 7), .ref (X 8)])), (X 0, .inl (gI g, 12, .inl (V 0))), (X 1, .inl (gI g, 480, .inl (V 1))), (X 2, .inl (gI g, 24, .inl (V 2))), (X 3, .inl (gI g, 24, .inl (V 3))), (X 4, .inl (gI g, 24, .inl (V 4))), (X 5, .inl (gI g, 192, .inl (V 5))), (X 6, .inl (gI g, 24, .inl (V 6))), (X 7, .inl (gI g, 24, .inl (V 7))), (X 8, .inl (gI g, 24, .inl (V 8)))] := D_same hD rfl
        refine lv_goto (tgt := 50) hx hb dX3_firstOf_41 (by decide) ?_
        exact hret _ _ _ _ hP hS dX3_firstOf_50
    · exact absurd c18 (by rw [hgk2]; decide)

set_option maxHeartbeats 4000000 in
set_option maxRecDepth 100000 in
/-- ofEnvelope2 -/
theorem c_X3_ofEnvelope2 (l : Launch) (g : gT) (h : Nat) (X : Nat → Nat) (V : Nat → Nat → Int32) (th : Int32) (lc ec : Nat) (NN : Nat → Nat) (hlc : lc ≤ 12) (hec : ec ≤ 24) (hNN : ∀ i, i < lc → V 0 i = nI (NN i) ∧ NN i ≤ 40) (LN SC : Nat → Nat) (hEN : ∀ q, q < ec → V 2 q = nI (LN q) ∧ LN q < lc ∧ V 4 q = nI (SC q) ∧ SC q ≤ 40) (q : Nat) (hq : q < ec) : wM g l yX3_ofEnvelope wsX3_ofEnvelope { frames := 2, cells := 0, slots := 0, locals := 43 } [.ref (h), .int (nI q), .ref (X 2)] (mdW g h X V th lc ec) (some (.int (nI (LN q)))) (mdW g h X V 0 lc ec) := by
  refine wr_ofI (cc := cX3_ofEnvelope) (maxL := 3) (by decide) rfl (Nat.le_of_ble_eq_true rfl) ?_
  intro p e s m args below meth c H0 ls A Q hx hb hml hts hown hK hP hD hS hl hret
  have hl : lv_has ls 3 [(0, .ref (h)), (1, .int (nI q)), (2, .ref (X 2))] := hl
  have S : CallFix p m c cX3_ofEnvelope 3 s args wsX3_ofEnvelope RX3 := ⟨hx, hb, hml, hown, hts⟩
  have hgq : inB (nI q) ec = true := inB_nI hq (by omega)
  have hLN := (hEN q hq).1
  have hLl := (hEN q hq).2.1
  have hSC := (hEN q hq).2.2.1
  have hSl := (hEN q hq).2.2.2
  have hVn := (hNN _ hLl).1
  have hn := (hNN _ hLl).2
  have iX3 : ∀ w ∈ u_ws RX3 TX3 12, w ∈ wsX3_ofEnvelope := by decide +kernel
  have f37 := hts (.fieldLink RX3 37 "LetterSealsModel" "thrown" "I") (by decide +kernel)
  obtain ⟨H, eH⟩ : ∃ H : Heap, H = H0 := ⟨_, rfl⟩
  rw [← eH] at hP ⊢
  have hS : va_S A H0 H [] := by rw [eH]; exact hS
  have hP : va_P (gD g) vwCl [(h, .inr (3, [.int (th), .int (nI lc), .ref (X 0), .ref (X 1), .int (nI ec), .ref (X 2), .ref (X 3), .ref (X 4), .ref (X 5), .ref (X 6), .ref (X 7), .ref (X 8)])), (X 0, .inl (gI g, 12, .inl (V 0))), (X 1, .inl (gI g, 480, .inl (V 1))), (X 2, .inl (gI g, 24, .inl (V 2))), (X 3, .inl (gI g, 24, .inl (V 3))), (X 4, .inl (gI g, 24, .inl (V 4))), (X 5, .inl (gI g, 192, .inl (V 5))), (X 6, .inl (gI g, 24, .inl (V 6))), (X 7, .inl (gI g, 24, .inl (V 7))), (X 8, .inl (gI g, 24, .inl (V 8)))] H := hP
  have hD : va_D A [(h, .inr (3, [.int (th), .int (nI lc), .ref (X 0), .ref (X 1), .int (nI ec), .ref (X 2), .ref (X 3), .ref (X 4), .ref (X 5), .ref (X 6), .ref (X 7), .ref (X 8)])), (X 0, .inl (gI g, 12, .inl (V 0))), (X 1, .inl (gI g, 480, .inl (V 1))), (X 2, .inl (gI g, 24, .inl (V 2))), (X 3, .inl (gI g, 24, .inl (V 3))), (X 4, .inl (gI g, 24, .inl (V 4))), (X 5, .inl (gI g, 192, .inl (V 5))), (X 6, .inl (gI g, 24, .inl (V 6))), (X 7, .inl (gI g, 24, .inl (V 7))), (X 8, .inl (gI g, 24, .inl (V 8)))] := hD
  refine lv_aload_n hx hb dX3_ofEnvelope_0 rfl (lv_at hl 0 rfl) ?_
  refine lv_iconst (v := 0) hx hb dX3_ofEnvelope_1 (by decide +kernel) ?_
  refine va_put (D := gD g) (ci := 3) (v := .int (0)) (ty := .int) (C := RX3) (T := TX3) (N := 12) hx hb hts iX3 tyX3 tyX3_ok nmX3 hown hK.1 hP hD hS 0 rfl rfl 0 (by decide) f37 (fun _ h9 => h9) rfl (by decide +kernel) rfl rfl (Nat.le_of_ble_eq_true rfl) dX3_ofEnvelope_2 (fun H locs hP hD hS => ?_)
  have hP : va_P (gD g) vwCl [(h, .inr (3, [.int (0), .int (nI lc), .ref (X 0), .ref (X 1), .int (nI ec), .ref (X 2), .ref (X 3), .ref (X 4), .ref (X 5), .ref (X 6), .ref (X 7), .ref (X 8)])), (X 0, .inl (gI g, 12, .inl (V 0))), (X 1, .inl (gI g, 480, .inl (V 1))), (X 2, .inl (gI g, 24, .inl (V 2))), (X 3, .inl (gI g, 24, .inl (V 3))), (X 4, .inl (gI g, 24, .inl (V 4))), (X 5, .inl (gI g, 192, .inl (V 5))), (X 6, .inl (gI g, 24, .inl (V 6))), (X 7, .inl (gI g, 24, .inl (V 7))), (X 8, .inl (gI g, 24, .inl (V 8)))] H := hP
  have hD : va_D A [(h, .inr (3, [.int (0), .int (nI lc), .ref (X 0), .ref (X 1), .int (nI ec), .ref (X 2), .ref (X 3), .ref (X 4), .ref (X 5), .ref (X 6), .ref (X 7), .ref (X 8)])), (X 0, .inl (gI g, 12, .inl (V 0))), (X 1, .inl (gI g, 480, .inl (V 1))), (X 2, .inl (gI g, 24, .inl (V 2))), (X 3, .inl (gI g, 24, .inl (V 3))), (X 4, .inl (gI g, 24, .inl (V 4))), (X 5, .inl (gI g, 192, .inl (V 5))), (X 6, .inl (gI g, 24, .inl (V 6))), (X 7, .inl (gI g, 24, .inl (V 7))), (X 8, .inl (gI g, 24, .inl (V 8)))] := hD
  refine lv_aload_n hx hb dX3_ofEnvelope_5 rfl (lv_at hl 0 rfl) ?_
  refine lv_iload_n hx hb dX3_ofEnvelope_6 rfl (lv_at hl 1 rfl) ?_
  refine p_V (As := [.int (nI q)]) (rest := []) S (c_X3_isEnvelope l g h X V 0 lc ec (nI q) hlc hec) (cwV 1 hts gX3_ofEnvelope_X3_isEnvelope rfl rfl rfl (by decide +kernel) ⟨Nat.le_of_ble_eq_true rfl, Nat.le_of_ble_eq_true rfl⟩) hK (va_recv hK.1 hP (ci := 3) (q0 := 0) rfl rfl) (hP) rfl hl.1 rfl (Nat.le_of_ble_eq_true rfl) dX3_ofEnvelope_7 ⟨Nat.le_of_ble_eq_true rfl, Nat.le_of_ble_eq_true rfl⟩ ?_
  refine br_eqB (tgt := 19) hx hb dX3_ofEnvelope_10 (by decide) (fun c10 => ?_) (fun c10 => ?_)
  · exact absurd c10 (by rw [hgq]; decide)
  · refine lv_aload_n hx hb dX3_ofEnvelope_13 rfl (lv_at hl 2 rfl) ?_
    refine lv_iload_n hx hb dX3_ofEnvelope_14 rfl (lv_at hl 1 rfl) ?_
    refine ld_I (k := q) (n := 24) (f := V 2) hx hb hK.1 hP 3 rfl (by omega) (by omega) dX3_ofEnvelope_15 ?_
    refine lv_toI (z := nI (LN q)) (hLN) ?_
    refine lv_goto (tgt := 24) hx hb dX3_ofEnvelope_16 (by decide) ?_
    exact hret _ _ _ _ hP hS dX3_ofEnvelope_24

set_option maxHeartbeats 4000000 in
set_option maxRecDepth 100000 in
/-- ofEnvelope2_1 -/
theorem c_X3_ofEnvelope2_1 (l : Launch) (g : gT) (h : Nat) (X : Nat → Nat) (V : Nat → Nat → Int32) (th : Int32) (lc ec : Nat) (hlc : lc ≤ 12) (hec : ec ≤ 24) (x : Int32) (hxb : inB x ec = false) : wM g l yX3_ofEnvelope wsX3_ofEnvelope { frames := 2, cells := 0, slots := 0, locals := 43 } [.ref (h), .int (x), .ref (X 2)] (mdW g h X V th lc ec) (some (.int (0))) (mdW g h X V 1 lc ec) := by
  refine wr_ofI (cc := cX3_ofEnvelope) (maxL := 3) (by decide) rfl (Nat.le_of_ble_eq_true rfl) ?_
  intro p e s m args below meth c H0 ls A Q hx hb hml hts hown hK hP hD hS hl hret
  have hl : lv_has ls 3 [(0, .ref (h)), (1, .int (x)), (2, .ref (X 2))] := hl
  have S : CallFix p m c cX3_ofEnvelope 3 s args wsX3_ofEnvelope RX3 := ⟨hx, hb, hml, hown, hts⟩
  have iX3 : ∀ w ∈ u_ws RX3 TX3 12, w ∈ wsX3_ofEnvelope := by decide +kernel
  have f37 := hts (.fieldLink RX3 37 "LetterSealsModel" "thrown" "I") (by decide +kernel)
  obtain ⟨H, eH⟩ : ∃ H : Heap, H = H0 := ⟨_, rfl⟩
  rw [← eH] at hP ⊢
  have hS : va_S A H0 H [] := by rw [eH]; exact hS
  have hP : va_P (gD g) vwCl [(h, .inr (3, [.int (th), .int (nI lc), .ref (X 0), .ref (X 1), .int (nI ec), .ref (X 2), .ref (X 3), .ref (X 4), .ref (X 5), .ref (X 6), .ref (X 7), .ref (X 8)])), (X 0, .inl (gI g, 12, .inl (V 0))), (X 1, .inl (gI g, 480, .inl (V 1))), (X 2, .inl (gI g, 24, .inl (V 2))), (X 3, .inl (gI g, 24, .inl (V 3))), (X 4, .inl (gI g, 24, .inl (V 4))), (X 5, .inl (gI g, 192, .inl (V 5))), (X 6, .inl (gI g, 24, .inl (V 6))), (X 7, .inl (gI g, 24, .inl (V 7))), (X 8, .inl (gI g, 24, .inl (V 8)))] H := hP
  have hD : va_D A [(h, .inr (3, [.int (th), .int (nI lc), .ref (X 0), .ref (X 1), .int (nI ec), .ref (X 2), .ref (X 3), .ref (X 4), .ref (X 5), .ref (X 6), .ref (X 7), .ref (X 8)])), (X 0, .inl (gI g, 12, .inl (V 0))), (X 1, .inl (gI g, 480, .inl (V 1))), (X 2, .inl (gI g, 24, .inl (V 2))), (X 3, .inl (gI g, 24, .inl (V 3))), (X 4, .inl (gI g, 24, .inl (V 4))), (X 5, .inl (gI g, 192, .inl (V 5))), (X 6, .inl (gI g, 24, .inl (V 6))), (X 7, .inl (gI g, 24, .inl (V 7))), (X 8, .inl (gI g, 24, .inl (V 8)))] := hD
  refine lv_aload_n hx hb dX3_ofEnvelope_0 rfl (lv_at hl 0 rfl) ?_
  refine lv_iconst (v := 0) hx hb dX3_ofEnvelope_1 (by decide +kernel) ?_
  refine va_put (D := gD g) (ci := 3) (v := .int (0)) (ty := .int) (C := RX3) (T := TX3) (N := 12) hx hb hts iX3 tyX3 tyX3_ok nmX3 hown hK.1 hP hD hS 0 rfl rfl 0 (by decide) f37 (fun _ h9 => h9) rfl (by decide +kernel) rfl rfl (Nat.le_of_ble_eq_true rfl) dX3_ofEnvelope_2 (fun H locs hP hD hS => ?_)
  have hP : va_P (gD g) vwCl [(h, .inr (3, [.int (0), .int (nI lc), .ref (X 0), .ref (X 1), .int (nI ec), .ref (X 2), .ref (X 3), .ref (X 4), .ref (X 5), .ref (X 6), .ref (X 7), .ref (X 8)])), (X 0, .inl (gI g, 12, .inl (V 0))), (X 1, .inl (gI g, 480, .inl (V 1))), (X 2, .inl (gI g, 24, .inl (V 2))), (X 3, .inl (gI g, 24, .inl (V 3))), (X 4, .inl (gI g, 24, .inl (V 4))), (X 5, .inl (gI g, 192, .inl (V 5))), (X 6, .inl (gI g, 24, .inl (V 6))), (X 7, .inl (gI g, 24, .inl (V 7))), (X 8, .inl (gI g, 24, .inl (V 8)))] H := hP
  have hD : va_D A [(h, .inr (3, [.int (0), .int (nI lc), .ref (X 0), .ref (X 1), .int (nI ec), .ref (X 2), .ref (X 3), .ref (X 4), .ref (X 5), .ref (X 6), .ref (X 7), .ref (X 8)])), (X 0, .inl (gI g, 12, .inl (V 0))), (X 1, .inl (gI g, 480, .inl (V 1))), (X 2, .inl (gI g, 24, .inl (V 2))), (X 3, .inl (gI g, 24, .inl (V 3))), (X 4, .inl (gI g, 24, .inl (V 4))), (X 5, .inl (gI g, 192, .inl (V 5))), (X 6, .inl (gI g, 24, .inl (V 6))), (X 7, .inl (gI g, 24, .inl (V 7))), (X 8, .inl (gI g, 24, .inl (V 8)))] := hD
  refine lv_aload_n hx hb dX3_ofEnvelope_5 rfl (lv_at hl 0 rfl) ?_
  refine lv_iload_n hx hb dX3_ofEnvelope_6 rfl (lv_at hl 1 rfl) ?_
  refine p_V (As := [.int (x)]) (rest := []) S (c_X3_isEnvelope l g h X V 0 lc ec (x) hlc hec) (cwV 1 hts gX3_ofEnvelope_X3_isEnvelope rfl rfl rfl (by decide +kernel) ⟨Nat.le_of_ble_eq_true rfl, Nat.le_of_ble_eq_true rfl⟩) hK (va_recv hK.1 hP (ci := 3) (q0 := 0) rfl rfl) (hP) rfl hl.1 rfl (Nat.le_of_ble_eq_true rfl) dX3_ofEnvelope_7 ⟨Nat.le_of_ble_eq_true rfl, Nat.le_of_ble_eq_true rfl⟩ ?_
  refine br_eqB (tgt := 19) hx hb dX3_ofEnvelope_10 (by decide) (fun c10 => ?_) (fun c10 => ?_)
  · refine lv_aload_n hx hb dX3_ofEnvelope_19 rfl (lv_at hl 0 rfl) ?_
    refine lv_iconst (v := 1) hx hb dX3_ofEnvelope_20 (by decide +kernel) ?_
    refine w_V (As := [.int (1)]) (rest := []) S (c_X3_no l g h X V 0 lc ec (1)) (cwV 1 hts gX3_ofEnvelope_X3_no rfl rfl rfl (by decide +kernel) ⟨Nat.le_of_ble_eq_true rfl, Nat.le_of_ble_eq_true rfl⟩) hK (va_recv hK.1 hP (ci := 3) (q0 := 0) rfl rfl) hP (hD.weaken (fun _ _ _ _ => trivial)) hS (wA_D hD [0, 1, 2, 3, 4, 5, 6, 7, 8, 9] rfl) rfl hl.1 rfl (Nat.le_of_ble_eq_true rfl) dX3_ofEnvelope_21 ⟨Nat.le_of_ble_eq_true rfl, Nat.le_of_ble_eq_true rfl⟩ (fun H locs hP1 hz1 hk1 hS => ?_)
    have hP : va_P (gD g) vwCl [(h, .inr (3, [.int (1), .int (nI lc), .ref (X 0), .ref (X 1), .int (nI ec), .ref (X 2), .ref (X 3), .ref (X 4), .ref (X 5), .ref (X 6), .ref (X 7), .ref (X 8)])), (X 0, .inl (gI g, 12, .inl (V 0))), (X 1, .inl (gI g, 480, .inl (V 1))), (X 2, .inl (gI g, 24, .inl (V 2))), (X 3, .inl (gI g, 24, .inl (V 3))), (X 4, .inl (gI g, 24, .inl (V 4))), (X 5, .inl (gI g, 192, .inl (V 5))), (X 6, .inl (gI g, 24, .inl (V 6))), (X 7, .inl (gI g, 24, .inl (V 7))), (X 8, .inl (gI g, 24, .inl (V 8)))] H := hP1
    have hD : va_D A [(h, .inr (3, [.int (1), .int (nI lc), .ref (X 0), .ref (X 1), .int (nI ec), .ref (X 2), .ref (X 3), .ref (X 4), .ref (X 5), .ref (X 6), .ref (X 7), .ref (X 8)])), (X 0, .inl (gI g, 12, .inl (V 0))), (X 1, .inl (gI g, 480, .inl (V 1))), (X 2, .inl (gI g, 24, .inl (V 2))), (X 3, .inl (gI g, 24, .inl (V 3))), (X 4, .inl (gI g, 24, .inl (V 4))), (X 5, .inl (gI g, 192, .inl (V 5))), (X 6, .inl (gI g, 24, .inl (V 6))), (X 7, .inl (gI g, 24, .inl (V 7))), (X 8, .inl (gI g, 24, .inl (V 8)))] := D_same hD rfl
    exact hret _ _ _ _ hP hS dX3_ofEnvelope_24
  · exact absurd c10 (by rw [hxb]; decide)

set_option maxHeartbeats 4000000 in
set_option maxRecDepth 100000 in
/-- letterIn -/
theorem c_X3_letterIn (l : Launch) (g : gT) (h : Nat) (X : Nat → Nat) (V : Nat → Nat → Int32) (th : Int32) (lc ec : Nat) (NN : Nat → Nat) (hlc : lc ≤ 12) (hec : ec ≤ 24) (hNN : ∀ i, i < lc → V 0 i = nI (NN i) ∧ NN i ≤ 40) (LN SC : Nat → Nat) (hEN : ∀ q, q < ec → V 2 q = nI (LN q) ∧ LN q < lc ∧ V 4 q = nI (SC q) ∧ SC q ≤ 40) (q : Nat) (hq : q < ec) : wM g l yX3_letterIn wsX3_letterIn { frames := 3, cells := 0, slots := 0, locals := 65 } [.ref (h), .int (nI q)] (mdW g h X V th lc ec) (some (.int (nI (LN q)))) (mdW g h X V 0 lc ec) := by
  refine wr_ofI (cc := cX3_letterIn) (maxL := 2) (by decide) rfl (Nat.le_of_ble_eq_true rfl) ?_
  intro p e s m args below meth c H0 ls A Q hx hb hml hts hown hK hP hD hS hl hret
  have hl : lv_has ls 2 [(0, .ref (h)), (1, .int (nI q))] := hl
  have S : CallFix p m c cX3_letterIn 2 s args wsX3_letterIn RX3 := ⟨hx, hb, hml, hown, hts⟩
  have iX3 : ∀ w ∈ u_ws RX3 TX3 12, w ∈ wsX3_letterIn := by decide +kernel
  have f16 := hts (.fieldLink RX3 16 "LetterSealsModel" "of" "[I") (by decide +kernel)
  obtain ⟨H, eH⟩ : ∃ H : Heap, H = H0 := ⟨_, rfl⟩
  rw [← eH] at hP ⊢
  have hS : va_S A H0 H [] := by rw [eH]; exact hS
  have hP : va_P (gD g) vwCl [(h, .inr (3, [.int (th), .int (nI lc), .ref (X 0), .ref (X 1), .int (nI ec), .ref (X 2), .ref (X 3), .ref (X 4), .ref (X 5), .ref (X 6), .ref (X 7), .ref (X 8)])), (X 0, .inl (gI g, 12, .inl (V 0))), (X 1, .inl (gI g, 480, .inl (V 1))), (X 2, .inl (gI g, 24, .inl (V 2))), (X 3, .inl (gI g, 24, .inl (V 3))), (X 4, .inl (gI g, 24, .inl (V 4))), (X 5, .inl (gI g, 192, .inl (V 5))), (X 6, .inl (gI g, 24, .inl (V 6))), (X 7, .inl (gI g, 24, .inl (V 7))), (X 8, .inl (gI g, 24, .inl (V 8)))] H := hP
  have hD : va_D A [(h, .inr (3, [.int (th), .int (nI lc), .ref (X 0), .ref (X 1), .int (nI ec), .ref (X 2), .ref (X 3), .ref (X 4), .ref (X 5), .ref (X 6), .ref (X 7), .ref (X 8)])), (X 0, .inl (gI g, 12, .inl (V 0))), (X 1, .inl (gI g, 480, .inl (V 1))), (X 2, .inl (gI g, 24, .inl (V 2))), (X 3, .inl (gI g, 24, .inl (V 3))), (X 4, .inl (gI g, 24, .inl (V 4))), (X 5, .inl (gI g, 192, .inl (V 5))), (X 6, .inl (gI g, 24, .inl (V 6))), (X 7, .inl (gI g, 24, .inl (V 7))), (X 8, .inl (gI g, 24, .inl (V 8)))] := hD
  refine lv_aload_n hx hb dX3_letterIn_0 rfl (lv_at hl 0 rfl) ?_
  refine lv_iload_n hx hb dX3_letterIn_1 rfl (lv_at hl 1 rfl) ?_
  refine lv_aload_n hx hb dX3_letterIn_2 rfl (lv_at hl 0 rfl) ?_
  refine va_get (D := gD g) (ci := 3) (v := .ref (X 2)) (C := RX3) (T := TX3) (N := 12) hx hb hts iX3 hown hK.1 hP 0 rfl rfl 5 (by decide) f16 (fun _ h9 => h9) rfl dX3_letterIn_3 ?_
  refine w_V (As := [.int (nI q), .ref (X 2)]) (rest := []) S (c_X3_ofEnvelope2 l g h X V th lc ec NN hlc hec hNN LN SC hEN q hq) (cwV 2 hts gX3_letterIn_X3_ofEnvelope rfl rfl rfl (by decide +kernel) ⟨Nat.le_of_ble_eq_true rfl, Nat.le_of_ble_eq_true rfl⟩) hK (va_recv hK.1 hP (ci := 3) (q0 := 0) rfl rfl) hP (hD.weaken (fun _ _ _ _ => trivial)) hS (wA_D hD [0, 1, 2, 3, 4, 5, 6, 7, 8, 9] rfl) rfl hl.1 rfl (Nat.le_of_ble_eq_true rfl) dX3_letterIn_6 ⟨Nat.le_of_ble_eq_true rfl, Nat.le_of_ble_eq_true rfl⟩ (fun H locs hP1 hz1 hk1 hS => ?_)
  have hP : va_P (gD g) vwCl [(h, .inr (3, [.int (0), .int (nI lc), .ref (X 0), .ref (X 1), .int (nI ec), .ref (X 2), .ref (X 3), .ref (X 4), .ref (X 5), .ref (X 6), .ref (X 7), .ref (X 8)])), (X 0, .inl (gI g, 12, .inl (V 0))), (X 1, .inl (gI g, 480, .inl (V 1))), (X 2, .inl (gI g, 24, .inl (V 2))), (X 3, .inl (gI g, 24, .inl (V 3))), (X 4, .inl (gI g, 24, .inl (V 4))), (X 5, .inl (gI g, 192, .inl (V 5))), (X 6, .inl (gI g, 24, .inl (V 6))), (X 7, .inl (gI g, 24, .inl (V 7))), (X 8, .inl (gI g, 24, .inl (V 8)))] H := hP1
  have hD : va_D A [(h, .inr (3, [.int (0), .int (nI lc), .ref (X 0), .ref (X 1), .int (nI ec), .ref (X 2), .ref (X 3), .ref (X 4), .ref (X 5), .ref (X 6), .ref (X 7), .ref (X 8)])), (X 0, .inl (gI g, 12, .inl (V 0))), (X 1, .inl (gI g, 480, .inl (V 1))), (X 2, .inl (gI g, 24, .inl (V 2))), (X 3, .inl (gI g, 24, .inl (V 3))), (X 4, .inl (gI g, 24, .inl (V 4))), (X 5, .inl (gI g, 192, .inl (V 5))), (X 6, .inl (gI g, 24, .inl (V 6))), (X 7, .inl (gI g, 24, .inl (V 7))), (X 8, .inl (gI g, 24, .inl (V 8)))] := D_same hD rfl
  exact hret _ _ _ _ hP hS dX3_letterIn_9

set_option maxHeartbeats 4000000 in
set_option maxRecDepth 100000 in
/-- letterIn_1 -/
theorem c_X3_letterIn_1 (l : Launch) (g : gT) (h : Nat) (X : Nat → Nat) (V : Nat → Nat → Int32) (th : Int32) (lc ec : Nat) (hlc : lc ≤ 12) (hec : ec ≤ 24) (x : Int32) (hxb : inB x ec = false) : wM g l yX3_letterIn wsX3_letterIn { frames := 3, cells := 0, slots := 0, locals := 65 } [.ref (h), .int (x)] (mdW g h X V th lc ec) (some (.int (0))) (mdW g h X V 1 lc ec) := by
  refine wr_ofI (cc := cX3_letterIn) (maxL := 2) (by decide) rfl (Nat.le_of_ble_eq_true rfl) ?_
  intro p e s m args below meth c H0 ls A Q hx hb hml hts hown hK hP hD hS hl hret
  have hl : lv_has ls 2 [(0, .ref (h)), (1, .int (x))] := hl
  have S : CallFix p m c cX3_letterIn 2 s args wsX3_letterIn RX3 := ⟨hx, hb, hml, hown, hts⟩
  have iX3 : ∀ w ∈ u_ws RX3 TX3 12, w ∈ wsX3_letterIn := by decide +kernel
  have f16 := hts (.fieldLink RX3 16 "LetterSealsModel" "of" "[I") (by decide +kernel)
  obtain ⟨H, eH⟩ : ∃ H : Heap, H = H0 := ⟨_, rfl⟩
  rw [← eH] at hP ⊢
  have hS : va_S A H0 H [] := by rw [eH]; exact hS
  have hP : va_P (gD g) vwCl [(h, .inr (3, [.int (th), .int (nI lc), .ref (X 0), .ref (X 1), .int (nI ec), .ref (X 2), .ref (X 3), .ref (X 4), .ref (X 5), .ref (X 6), .ref (X 7), .ref (X 8)])), (X 0, .inl (gI g, 12, .inl (V 0))), (X 1, .inl (gI g, 480, .inl (V 1))), (X 2, .inl (gI g, 24, .inl (V 2))), (X 3, .inl (gI g, 24, .inl (V 3))), (X 4, .inl (gI g, 24, .inl (V 4))), (X 5, .inl (gI g, 192, .inl (V 5))), (X 6, .inl (gI g, 24, .inl (V 6))), (X 7, .inl (gI g, 24, .inl (V 7))), (X 8, .inl (gI g, 24, .inl (V 8)))] H := hP
  have hD : va_D A [(h, .inr (3, [.int (th), .int (nI lc), .ref (X 0), .ref (X 1), .int (nI ec), .ref (X 2), .ref (X 3), .ref (X 4), .ref (X 5), .ref (X 6), .ref (X 7), .ref (X 8)])), (X 0, .inl (gI g, 12, .inl (V 0))), (X 1, .inl (gI g, 480, .inl (V 1))), (X 2, .inl (gI g, 24, .inl (V 2))), (X 3, .inl (gI g, 24, .inl (V 3))), (X 4, .inl (gI g, 24, .inl (V 4))), (X 5, .inl (gI g, 192, .inl (V 5))), (X 6, .inl (gI g, 24, .inl (V 6))), (X 7, .inl (gI g, 24, .inl (V 7))), (X 8, .inl (gI g, 24, .inl (V 8)))] := hD
  refine lv_aload_n hx hb dX3_letterIn_0 rfl (lv_at hl 0 rfl) ?_
  refine lv_iload_n hx hb dX3_letterIn_1 rfl (lv_at hl 1 rfl) ?_
  refine lv_aload_n hx hb dX3_letterIn_2 rfl (lv_at hl 0 rfl) ?_
  refine va_get (D := gD g) (ci := 3) (v := .ref (X 2)) (C := RX3) (T := TX3) (N := 12) hx hb hts iX3 hown hK.1 hP 0 rfl rfl 5 (by decide) f16 (fun _ h9 => h9) rfl dX3_letterIn_3 ?_
  refine w_V (As := [.int (x), .ref (X 2)]) (rest := []) S (c_X3_ofEnvelope2_1 l g h X V th lc ec hlc hec x hxb) (cwV 2 hts gX3_letterIn_X3_ofEnvelope rfl rfl rfl (by decide +kernel) ⟨Nat.le_of_ble_eq_true rfl, Nat.le_of_ble_eq_true rfl⟩) hK (va_recv hK.1 hP (ci := 3) (q0 := 0) rfl rfl) hP (hD.weaken (fun _ _ _ _ => trivial)) hS (wA_D hD [0, 1, 2, 3, 4, 5, 6, 7, 8, 9] rfl) rfl hl.1 rfl (Nat.le_of_ble_eq_true rfl) dX3_letterIn_6 ⟨Nat.le_of_ble_eq_true rfl, Nat.le_of_ble_eq_true rfl⟩ (fun H locs hP1 hz1 hk1 hS => ?_)
  have hP : va_P (gD g) vwCl [(h, .inr (3, [.int (1), .int (nI lc), .ref (X 0), .ref (X 1), .int (nI ec), .ref (X 2), .ref (X 3), .ref (X 4), .ref (X 5), .ref (X 6), .ref (X 7), .ref (X 8)])), (X 0, .inl (gI g, 12, .inl (V 0))), (X 1, .inl (gI g, 480, .inl (V 1))), (X 2, .inl (gI g, 24, .inl (V 2))), (X 3, .inl (gI g, 24, .inl (V 3))), (X 4, .inl (gI g, 24, .inl (V 4))), (X 5, .inl (gI g, 192, .inl (V 5))), (X 6, .inl (gI g, 24, .inl (V 6))), (X 7, .inl (gI g, 24, .inl (V 7))), (X 8, .inl (gI g, 24, .inl (V 8)))] H := hP1
  have hD : va_D A [(h, .inr (3, [.int (1), .int (nI lc), .ref (X 0), .ref (X 1), .int (nI ec), .ref (X 2), .ref (X 3), .ref (X 4), .ref (X 5), .ref (X 6), .ref (X 7), .ref (X 8)])), (X 0, .inl (gI g, 12, .inl (V 0))), (X 1, .inl (gI g, 480, .inl (V 1))), (X 2, .inl (gI g, 24, .inl (V 2))), (X 3, .inl (gI g, 24, .inl (V 3))), (X 4, .inl (gI g, 24, .inl (V 4))), (X 5, .inl (gI g, 192, .inl (V 5))), (X 6, .inl (gI g, 24, .inl (V 6))), (X 7, .inl (gI g, 24, .inl (V 7))), (X 8, .inl (gI g, 24, .inl (V 8)))] := D_same hD rfl
  exact hret _ _ _ _ hP hS dX3_letterIn_9

set_option maxHeartbeats 4000000 in
set_option maxRecDepth 100000 in
/-- ofEnvelope3 -/
theorem c_X3_ofEnvelope3 (l : Launch) (g : gT) (h : Nat) (X : Nat → Nat) (V : Nat → Nat → Int32) (th : Int32) (lc ec : Nat) (NN : Nat → Nat) (hlc : lc ≤ 12) (hec : ec ≤ 24) (hNN : ∀ i, i < lc → V 0 i = nI (NN i) ∧ NN i ≤ 40) (LN SC : Nat → Nat) (hEN : ∀ q, q < ec → V 2 q = nI (LN q) ∧ LN q < lc ∧ V 4 q = nI (SC q) ∧ SC q ≤ 40) (q : Nat) (hq : q < ec) : wM g l yX3_ofEnvelope wsX3_ofEnvelope { frames := 2, cells := 0, slots := 0, locals := 43 } [.ref (h), .int (nI q), .ref (X 3)] (mdW g h X V th lc ec) (some (.int (V 3 q))) (mdW g h X V 0 lc ec) := by
  refine wr_ofI (cc := cX3_ofEnvelope) (maxL := 3) (by decide) rfl (Nat.le_of_ble_eq_true rfl) ?_
  intro p e s m args below meth c H0 ls A Q hx hb hml hts hown hK hP hD hS hl hret
  have hl : lv_has ls 3 [(0, .ref (h)), (1, .int (nI q)), (2, .ref (X 3))] := hl
  have S : CallFix p m c cX3_ofEnvelope 3 s args wsX3_ofEnvelope RX3 := ⟨hx, hb, hml, hown, hts⟩
  have hgq : inB (nI q) ec = true := inB_nI hq (by omega)
  have hLN := (hEN q hq).1
  have hLl := (hEN q hq).2.1
  have hSC := (hEN q hq).2.2.1
  have hSl := (hEN q hq).2.2.2
  have hVn := (hNN _ hLl).1
  have hn := (hNN _ hLl).2
  have iX3 : ∀ w ∈ u_ws RX3 TX3 12, w ∈ wsX3_ofEnvelope := by decide +kernel
  have f37 := hts (.fieldLink RX3 37 "LetterSealsModel" "thrown" "I") (by decide +kernel)
  obtain ⟨H, eH⟩ : ∃ H : Heap, H = H0 := ⟨_, rfl⟩
  rw [← eH] at hP ⊢
  have hS : va_S A H0 H [] := by rw [eH]; exact hS
  have hP : va_P (gD g) vwCl [(h, .inr (3, [.int (th), .int (nI lc), .ref (X 0), .ref (X 1), .int (nI ec), .ref (X 2), .ref (X 3), .ref (X 4), .ref (X 5), .ref (X 6), .ref (X 7), .ref (X 8)])), (X 0, .inl (gI g, 12, .inl (V 0))), (X 1, .inl (gI g, 480, .inl (V 1))), (X 2, .inl (gI g, 24, .inl (V 2))), (X 3, .inl (gI g, 24, .inl (V 3))), (X 4, .inl (gI g, 24, .inl (V 4))), (X 5, .inl (gI g, 192, .inl (V 5))), (X 6, .inl (gI g, 24, .inl (V 6))), (X 7, .inl (gI g, 24, .inl (V 7))), (X 8, .inl (gI g, 24, .inl (V 8)))] H := hP
  have hD : va_D A [(h, .inr (3, [.int (th), .int (nI lc), .ref (X 0), .ref (X 1), .int (nI ec), .ref (X 2), .ref (X 3), .ref (X 4), .ref (X 5), .ref (X 6), .ref (X 7), .ref (X 8)])), (X 0, .inl (gI g, 12, .inl (V 0))), (X 1, .inl (gI g, 480, .inl (V 1))), (X 2, .inl (gI g, 24, .inl (V 2))), (X 3, .inl (gI g, 24, .inl (V 3))), (X 4, .inl (gI g, 24, .inl (V 4))), (X 5, .inl (gI g, 192, .inl (V 5))), (X 6, .inl (gI g, 24, .inl (V 6))), (X 7, .inl (gI g, 24, .inl (V 7))), (X 8, .inl (gI g, 24, .inl (V 8)))] := hD
  refine lv_aload_n hx hb dX3_ofEnvelope_0 rfl (lv_at hl 0 rfl) ?_
  refine lv_iconst (v := 0) hx hb dX3_ofEnvelope_1 (by decide +kernel) ?_
  refine va_put (D := gD g) (ci := 3) (v := .int (0)) (ty := .int) (C := RX3) (T := TX3) (N := 12) hx hb hts iX3 tyX3 tyX3_ok nmX3 hown hK.1 hP hD hS 0 rfl rfl 0 (by decide) f37 (fun _ h9 => h9) rfl (by decide +kernel) rfl rfl (Nat.le_of_ble_eq_true rfl) dX3_ofEnvelope_2 (fun H locs hP hD hS => ?_)
  have hP : va_P (gD g) vwCl [(h, .inr (3, [.int (0), .int (nI lc), .ref (X 0), .ref (X 1), .int (nI ec), .ref (X 2), .ref (X 3), .ref (X 4), .ref (X 5), .ref (X 6), .ref (X 7), .ref (X 8)])), (X 0, .inl (gI g, 12, .inl (V 0))), (X 1, .inl (gI g, 480, .inl (V 1))), (X 2, .inl (gI g, 24, .inl (V 2))), (X 3, .inl (gI g, 24, .inl (V 3))), (X 4, .inl (gI g, 24, .inl (V 4))), (X 5, .inl (gI g, 192, .inl (V 5))), (X 6, .inl (gI g, 24, .inl (V 6))), (X 7, .inl (gI g, 24, .inl (V 7))), (X 8, .inl (gI g, 24, .inl (V 8)))] H := hP
  have hD : va_D A [(h, .inr (3, [.int (0), .int (nI lc), .ref (X 0), .ref (X 1), .int (nI ec), .ref (X 2), .ref (X 3), .ref (X 4), .ref (X 5), .ref (X 6), .ref (X 7), .ref (X 8)])), (X 0, .inl (gI g, 12, .inl (V 0))), (X 1, .inl (gI g, 480, .inl (V 1))), (X 2, .inl (gI g, 24, .inl (V 2))), (X 3, .inl (gI g, 24, .inl (V 3))), (X 4, .inl (gI g, 24, .inl (V 4))), (X 5, .inl (gI g, 192, .inl (V 5))), (X 6, .inl (gI g, 24, .inl (V 6))), (X 7, .inl (gI g, 24, .inl (V 7))), (X 8, .inl (gI g, 24, .inl (V 8)))] := hD
  refine lv_aload_n hx hb dX3_ofEnvelope_5 rfl (lv_at hl 0 rfl) ?_
  refine lv_iload_n hx hb dX3_ofEnvelope_6 rfl (lv_at hl 1 rfl) ?_
  refine p_V (As := [.int (nI q)]) (rest := []) S (c_X3_isEnvelope l g h X V 0 lc ec (nI q) hlc hec) (cwV 1 hts gX3_ofEnvelope_X3_isEnvelope rfl rfl rfl (by decide +kernel) ⟨Nat.le_of_ble_eq_true rfl, Nat.le_of_ble_eq_true rfl⟩) hK (va_recv hK.1 hP (ci := 3) (q0 := 0) rfl rfl) (hP) rfl hl.1 rfl (Nat.le_of_ble_eq_true rfl) dX3_ofEnvelope_7 ⟨Nat.le_of_ble_eq_true rfl, Nat.le_of_ble_eq_true rfl⟩ ?_
  refine br_eqB (tgt := 19) hx hb dX3_ofEnvelope_10 (by decide) (fun c10 => ?_) (fun c10 => ?_)
  · exact absurd c10 (by rw [hgq]; decide)
  · refine lv_aload_n hx hb dX3_ofEnvelope_13 rfl (lv_at hl 2 rfl) ?_
    refine lv_iload_n hx hb dX3_ofEnvelope_14 rfl (lv_at hl 1 rfl) ?_
    refine ld_I (k := q) (n := 24) (f := V 3) hx hb hK.1 hP 4 rfl (by omega) (by omega) dX3_ofEnvelope_15 ?_
    refine lv_goto (tgt := 24) hx hb dX3_ofEnvelope_16 (by decide) ?_
    exact hret _ _ _ _ hP hS dX3_ofEnvelope_24

set_option maxHeartbeats 4000000 in
set_option maxRecDepth 100000 in
/-- ofEnvelope3_1 -/
theorem c_X3_ofEnvelope3_1 (l : Launch) (g : gT) (h : Nat) (X : Nat → Nat) (V : Nat → Nat → Int32) (th : Int32) (lc ec : Nat) (hlc : lc ≤ 12) (hec : ec ≤ 24) (x : Int32) (hxb : inB x ec = false) : wM g l yX3_ofEnvelope wsX3_ofEnvelope { frames := 2, cells := 0, slots := 0, locals := 43 } [.ref (h), .int (x), .ref (X 3)] (mdW g h X V th lc ec) (some (.int (0))) (mdW g h X V 1 lc ec) := by
  refine wr_ofI (cc := cX3_ofEnvelope) (maxL := 3) (by decide) rfl (Nat.le_of_ble_eq_true rfl) ?_
  intro p e s m args below meth c H0 ls A Q hx hb hml hts hown hK hP hD hS hl hret
  have hl : lv_has ls 3 [(0, .ref (h)), (1, .int (x)), (2, .ref (X 3))] := hl
  have S : CallFix p m c cX3_ofEnvelope 3 s args wsX3_ofEnvelope RX3 := ⟨hx, hb, hml, hown, hts⟩
  have iX3 : ∀ w ∈ u_ws RX3 TX3 12, w ∈ wsX3_ofEnvelope := by decide +kernel
  have f37 := hts (.fieldLink RX3 37 "LetterSealsModel" "thrown" "I") (by decide +kernel)
  obtain ⟨H, eH⟩ : ∃ H : Heap, H = H0 := ⟨_, rfl⟩
  rw [← eH] at hP ⊢
  have hS : va_S A H0 H [] := by rw [eH]; exact hS
  have hP : va_P (gD g) vwCl [(h, .inr (3, [.int (th), .int (nI lc), .ref (X 0), .ref (X 1), .int (nI ec), .ref (X 2), .ref (X 3), .ref (X 4), .ref (X 5), .ref (X 6), .ref (X 7), .ref (X 8)])), (X 0, .inl (gI g, 12, .inl (V 0))), (X 1, .inl (gI g, 480, .inl (V 1))), (X 2, .inl (gI g, 24, .inl (V 2))), (X 3, .inl (gI g, 24, .inl (V 3))), (X 4, .inl (gI g, 24, .inl (V 4))), (X 5, .inl (gI g, 192, .inl (V 5))), (X 6, .inl (gI g, 24, .inl (V 6))), (X 7, .inl (gI g, 24, .inl (V 7))), (X 8, .inl (gI g, 24, .inl (V 8)))] H := hP
  have hD : va_D A [(h, .inr (3, [.int (th), .int (nI lc), .ref (X 0), .ref (X 1), .int (nI ec), .ref (X 2), .ref (X 3), .ref (X 4), .ref (X 5), .ref (X 6), .ref (X 7), .ref (X 8)])), (X 0, .inl (gI g, 12, .inl (V 0))), (X 1, .inl (gI g, 480, .inl (V 1))), (X 2, .inl (gI g, 24, .inl (V 2))), (X 3, .inl (gI g, 24, .inl (V 3))), (X 4, .inl (gI g, 24, .inl (V 4))), (X 5, .inl (gI g, 192, .inl (V 5))), (X 6, .inl (gI g, 24, .inl (V 6))), (X 7, .inl (gI g, 24, .inl (V 7))), (X 8, .inl (gI g, 24, .inl (V 8)))] := hD
  refine lv_aload_n hx hb dX3_ofEnvelope_0 rfl (lv_at hl 0 rfl) ?_
  refine lv_iconst (v := 0) hx hb dX3_ofEnvelope_1 (by decide +kernel) ?_
  refine va_put (D := gD g) (ci := 3) (v := .int (0)) (ty := .int) (C := RX3) (T := TX3) (N := 12) hx hb hts iX3 tyX3 tyX3_ok nmX3 hown hK.1 hP hD hS 0 rfl rfl 0 (by decide) f37 (fun _ h9 => h9) rfl (by decide +kernel) rfl rfl (Nat.le_of_ble_eq_true rfl) dX3_ofEnvelope_2 (fun H locs hP hD hS => ?_)
  have hP : va_P (gD g) vwCl [(h, .inr (3, [.int (0), .int (nI lc), .ref (X 0), .ref (X 1), .int (nI ec), .ref (X 2), .ref (X 3), .ref (X 4), .ref (X 5), .ref (X 6), .ref (X 7), .ref (X 8)])), (X 0, .inl (gI g, 12, .inl (V 0))), (X 1, .inl (gI g, 480, .inl (V 1))), (X 2, .inl (gI g, 24, .inl (V 2))), (X 3, .inl (gI g, 24, .inl (V 3))), (X 4, .inl (gI g, 24, .inl (V 4))), (X 5, .inl (gI g, 192, .inl (V 5))), (X 6, .inl (gI g, 24, .inl (V 6))), (X 7, .inl (gI g, 24, .inl (V 7))), (X 8, .inl (gI g, 24, .inl (V 8)))] H := hP
  have hD : va_D A [(h, .inr (3, [.int (0), .int (nI lc), .ref (X 0), .ref (X 1), .int (nI ec), .ref (X 2), .ref (X 3), .ref (X 4), .ref (X 5), .ref (X 6), .ref (X 7), .ref (X 8)])), (X 0, .inl (gI g, 12, .inl (V 0))), (X 1, .inl (gI g, 480, .inl (V 1))), (X 2, .inl (gI g, 24, .inl (V 2))), (X 3, .inl (gI g, 24, .inl (V 3))), (X 4, .inl (gI g, 24, .inl (V 4))), (X 5, .inl (gI g, 192, .inl (V 5))), (X 6, .inl (gI g, 24, .inl (V 6))), (X 7, .inl (gI g, 24, .inl (V 7))), (X 8, .inl (gI g, 24, .inl (V 8)))] := hD
  refine lv_aload_n hx hb dX3_ofEnvelope_5 rfl (lv_at hl 0 rfl) ?_
  refine lv_iload_n hx hb dX3_ofEnvelope_6 rfl (lv_at hl 1 rfl) ?_
  refine p_V (As := [.int (x)]) (rest := []) S (c_X3_isEnvelope l g h X V 0 lc ec (x) hlc hec) (cwV 1 hts gX3_ofEnvelope_X3_isEnvelope rfl rfl rfl (by decide +kernel) ⟨Nat.le_of_ble_eq_true rfl, Nat.le_of_ble_eq_true rfl⟩) hK (va_recv hK.1 hP (ci := 3) (q0 := 0) rfl rfl) (hP) rfl hl.1 rfl (Nat.le_of_ble_eq_true rfl) dX3_ofEnvelope_7 ⟨Nat.le_of_ble_eq_true rfl, Nat.le_of_ble_eq_true rfl⟩ ?_
  refine br_eqB (tgt := 19) hx hb dX3_ofEnvelope_10 (by decide) (fun c10 => ?_) (fun c10 => ?_)
  · refine lv_aload_n hx hb dX3_ofEnvelope_19 rfl (lv_at hl 0 rfl) ?_
    refine lv_iconst (v := 1) hx hb dX3_ofEnvelope_20 (by decide +kernel) ?_
    refine w_V (As := [.int (1)]) (rest := []) S (c_X3_no l g h X V 0 lc ec (1)) (cwV 1 hts gX3_ofEnvelope_X3_no rfl rfl rfl (by decide +kernel) ⟨Nat.le_of_ble_eq_true rfl, Nat.le_of_ble_eq_true rfl⟩) hK (va_recv hK.1 hP (ci := 3) (q0 := 0) rfl rfl) hP (hD.weaken (fun _ _ _ _ => trivial)) hS (wA_D hD [0, 1, 2, 3, 4, 5, 6, 7, 8, 9] rfl) rfl hl.1 rfl (Nat.le_of_ble_eq_true rfl) dX3_ofEnvelope_21 ⟨Nat.le_of_ble_eq_true rfl, Nat.le_of_ble_eq_true rfl⟩ (fun H locs hP1 hz1 hk1 hS => ?_)
    have hP : va_P (gD g) vwCl [(h, .inr (3, [.int (1), .int (nI lc), .ref (X 0), .ref (X 1), .int (nI ec), .ref (X 2), .ref (X 3), .ref (X 4), .ref (X 5), .ref (X 6), .ref (X 7), .ref (X 8)])), (X 0, .inl (gI g, 12, .inl (V 0))), (X 1, .inl (gI g, 480, .inl (V 1))), (X 2, .inl (gI g, 24, .inl (V 2))), (X 3, .inl (gI g, 24, .inl (V 3))), (X 4, .inl (gI g, 24, .inl (V 4))), (X 5, .inl (gI g, 192, .inl (V 5))), (X 6, .inl (gI g, 24, .inl (V 6))), (X 7, .inl (gI g, 24, .inl (V 7))), (X 8, .inl (gI g, 24, .inl (V 8)))] H := hP1
    have hD : va_D A [(h, .inr (3, [.int (1), .int (nI lc), .ref (X 0), .ref (X 1), .int (nI ec), .ref (X 2), .ref (X 3), .ref (X 4), .ref (X 5), .ref (X 6), .ref (X 7), .ref (X 8)])), (X 0, .inl (gI g, 12, .inl (V 0))), (X 1, .inl (gI g, 480, .inl (V 1))), (X 2, .inl (gI g, 24, .inl (V 2))), (X 3, .inl (gI g, 24, .inl (V 3))), (X 4, .inl (gI g, 24, .inl (V 4))), (X 5, .inl (gI g, 192, .inl (V 5))), (X 6, .inl (gI g, 24, .inl (V 6))), (X 7, .inl (gI g, 24, .inl (V 7))), (X 8, .inl (gI g, 24, .inl (V 8)))] := D_same hD rfl
    exact hret _ _ _ _ hP hS dX3_ofEnvelope_24
  · exact absurd c10 (by rw [hxb]; decide)

set_option maxHeartbeats 4000000 in
set_option maxRecDepth 100000 in
/-- digestIn -/
theorem c_X3_digestIn (l : Launch) (g : gT) (h : Nat) (X : Nat → Nat) (V : Nat → Nat → Int32) (th : Int32) (lc ec : Nat) (NN : Nat → Nat) (hlc : lc ≤ 12) (hec : ec ≤ 24) (hNN : ∀ i, i < lc → V 0 i = nI (NN i) ∧ NN i ≤ 40) (LN SC : Nat → Nat) (hEN : ∀ q, q < ec → V 2 q = nI (LN q) ∧ LN q < lc ∧ V 4 q = nI (SC q) ∧ SC q ≤ 40) (q : Nat) (hq : q < ec) : wM g l yX3_digestIn wsX3_digestIn { frames := 3, cells := 0, slots := 0, locals := 65 } [.ref (h), .int (nI q)] (mdW g h X V th lc ec) (some (.int (V 3 q))) (mdW g h X V 0 lc ec) := by
  refine wr_ofI (cc := cX3_digestIn) (maxL := 2) (by decide) rfl (Nat.le_of_ble_eq_true rfl) ?_
  intro p e s m args below meth c H0 ls A Q hx hb hml hts hown hK hP hD hS hl hret
  have hl : lv_has ls 2 [(0, .ref (h)), (1, .int (nI q))] := hl
  have S : CallFix p m c cX3_digestIn 2 s args wsX3_digestIn RX3 := ⟨hx, hb, hml, hown, hts⟩
  have iX3 : ∀ w ∈ u_ws RX3 TX3 12, w ∈ wsX3_digestIn := by decide +kernel
  have f19 := hts (.fieldLink RX3 19 "LetterSealsModel" "written" "[I") (by decide +kernel)
  obtain ⟨H, eH⟩ : ∃ H : Heap, H = H0 := ⟨_, rfl⟩
  rw [← eH] at hP ⊢
  have hS : va_S A H0 H [] := by rw [eH]; exact hS
  have hP : va_P (gD g) vwCl [(h, .inr (3, [.int (th), .int (nI lc), .ref (X 0), .ref (X 1), .int (nI ec), .ref (X 2), .ref (X 3), .ref (X 4), .ref (X 5), .ref (X 6), .ref (X 7), .ref (X 8)])), (X 0, .inl (gI g, 12, .inl (V 0))), (X 1, .inl (gI g, 480, .inl (V 1))), (X 2, .inl (gI g, 24, .inl (V 2))), (X 3, .inl (gI g, 24, .inl (V 3))), (X 4, .inl (gI g, 24, .inl (V 4))), (X 5, .inl (gI g, 192, .inl (V 5))), (X 6, .inl (gI g, 24, .inl (V 6))), (X 7, .inl (gI g, 24, .inl (V 7))), (X 8, .inl (gI g, 24, .inl (V 8)))] H := hP
  have hD : va_D A [(h, .inr (3, [.int (th), .int (nI lc), .ref (X 0), .ref (X 1), .int (nI ec), .ref (X 2), .ref (X 3), .ref (X 4), .ref (X 5), .ref (X 6), .ref (X 7), .ref (X 8)])), (X 0, .inl (gI g, 12, .inl (V 0))), (X 1, .inl (gI g, 480, .inl (V 1))), (X 2, .inl (gI g, 24, .inl (V 2))), (X 3, .inl (gI g, 24, .inl (V 3))), (X 4, .inl (gI g, 24, .inl (V 4))), (X 5, .inl (gI g, 192, .inl (V 5))), (X 6, .inl (gI g, 24, .inl (V 6))), (X 7, .inl (gI g, 24, .inl (V 7))), (X 8, .inl (gI g, 24, .inl (V 8)))] := hD
  refine lv_aload_n hx hb dX3_digestIn_0 rfl (lv_at hl 0 rfl) ?_
  refine lv_iload_n hx hb dX3_digestIn_1 rfl (lv_at hl 1 rfl) ?_
  refine lv_aload_n hx hb dX3_digestIn_2 rfl (lv_at hl 0 rfl) ?_
  refine va_get (D := gD g) (ci := 3) (v := .ref (X 3)) (C := RX3) (T := TX3) (N := 12) hx hb hts iX3 hown hK.1 hP 0 rfl rfl 6 (by decide) f19 (fun _ h9 => h9) rfl dX3_digestIn_3 ?_
  refine w_V (As := [.int (nI q), .ref (X 3)]) (rest := []) S (c_X3_ofEnvelope3 l g h X V th lc ec NN hlc hec hNN LN SC hEN q hq) (cwV 2 hts gX3_digestIn_X3_ofEnvelope rfl rfl rfl (by decide +kernel) ⟨Nat.le_of_ble_eq_true rfl, Nat.le_of_ble_eq_true rfl⟩) hK (va_recv hK.1 hP (ci := 3) (q0 := 0) rfl rfl) hP (hD.weaken (fun _ _ _ _ => trivial)) hS (wA_D hD [0, 1, 2, 3, 4, 5, 6, 7, 8, 9] rfl) rfl hl.1 rfl (Nat.le_of_ble_eq_true rfl) dX3_digestIn_6 ⟨Nat.le_of_ble_eq_true rfl, Nat.le_of_ble_eq_true rfl⟩ (fun H locs hP1 hz1 hk1 hS => ?_)
  have hP : va_P (gD g) vwCl [(h, .inr (3, [.int (0), .int (nI lc), .ref (X 0), .ref (X 1), .int (nI ec), .ref (X 2), .ref (X 3), .ref (X 4), .ref (X 5), .ref (X 6), .ref (X 7), .ref (X 8)])), (X 0, .inl (gI g, 12, .inl (V 0))), (X 1, .inl (gI g, 480, .inl (V 1))), (X 2, .inl (gI g, 24, .inl (V 2))), (X 3, .inl (gI g, 24, .inl (V 3))), (X 4, .inl (gI g, 24, .inl (V 4))), (X 5, .inl (gI g, 192, .inl (V 5))), (X 6, .inl (gI g, 24, .inl (V 6))), (X 7, .inl (gI g, 24, .inl (V 7))), (X 8, .inl (gI g, 24, .inl (V 8)))] H := hP1
  have hD : va_D A [(h, .inr (3, [.int (0), .int (nI lc), .ref (X 0), .ref (X 1), .int (nI ec), .ref (X 2), .ref (X 3), .ref (X 4), .ref (X 5), .ref (X 6), .ref (X 7), .ref (X 8)])), (X 0, .inl (gI g, 12, .inl (V 0))), (X 1, .inl (gI g, 480, .inl (V 1))), (X 2, .inl (gI g, 24, .inl (V 2))), (X 3, .inl (gI g, 24, .inl (V 3))), (X 4, .inl (gI g, 24, .inl (V 4))), (X 5, .inl (gI g, 192, .inl (V 5))), (X 6, .inl (gI g, 24, .inl (V 6))), (X 7, .inl (gI g, 24, .inl (V 7))), (X 8, .inl (gI g, 24, .inl (V 8)))] := D_same hD rfl
  exact hret _ _ _ _ hP hS dX3_digestIn_9

set_option maxHeartbeats 4000000 in
set_option maxRecDepth 100000 in
/-- digestIn_1 -/
theorem c_X3_digestIn_1 (l : Launch) (g : gT) (h : Nat) (X : Nat → Nat) (V : Nat → Nat → Int32) (th : Int32) (lc ec : Nat) (hlc : lc ≤ 12) (hec : ec ≤ 24) (x : Int32) (hxb : inB x ec = false) : wM g l yX3_digestIn wsX3_digestIn { frames := 3, cells := 0, slots := 0, locals := 65 } [.ref (h), .int (x)] (mdW g h X V th lc ec) (some (.int (0))) (mdW g h X V 1 lc ec) := by
  refine wr_ofI (cc := cX3_digestIn) (maxL := 2) (by decide) rfl (Nat.le_of_ble_eq_true rfl) ?_
  intro p e s m args below meth c H0 ls A Q hx hb hml hts hown hK hP hD hS hl hret
  have hl : lv_has ls 2 [(0, .ref (h)), (1, .int (x))] := hl
  have S : CallFix p m c cX3_digestIn 2 s args wsX3_digestIn RX3 := ⟨hx, hb, hml, hown, hts⟩
  have iX3 : ∀ w ∈ u_ws RX3 TX3 12, w ∈ wsX3_digestIn := by decide +kernel
  have f19 := hts (.fieldLink RX3 19 "LetterSealsModel" "written" "[I") (by decide +kernel)
  obtain ⟨H, eH⟩ : ∃ H : Heap, H = H0 := ⟨_, rfl⟩
  rw [← eH] at hP ⊢
  have hS : va_S A H0 H [] := by rw [eH]; exact hS
  have hP : va_P (gD g) vwCl [(h, .inr (3, [.int (th), .int (nI lc), .ref (X 0), .ref (X 1), .int (nI ec), .ref (X 2), .ref (X 3), .ref (X 4), .ref (X 5), .ref (X 6), .ref (X 7), .ref (X 8)])), (X 0, .inl (gI g, 12, .inl (V 0))), (X 1, .inl (gI g, 480, .inl (V 1))), (X 2, .inl (gI g, 24, .inl (V 2))), (X 3, .inl (gI g, 24, .inl (V 3))), (X 4, .inl (gI g, 24, .inl (V 4))), (X 5, .inl (gI g, 192, .inl (V 5))), (X 6, .inl (gI g, 24, .inl (V 6))), (X 7, .inl (gI g, 24, .inl (V 7))), (X 8, .inl (gI g, 24, .inl (V 8)))] H := hP
  have hD : va_D A [(h, .inr (3, [.int (th), .int (nI lc), .ref (X 0), .ref (X 1), .int (nI ec), .ref (X 2), .ref (X 3), .ref (X 4), .ref (X 5), .ref (X 6), .ref (X 7), .ref (X 8)])), (X 0, .inl (gI g, 12, .inl (V 0))), (X 1, .inl (gI g, 480, .inl (V 1))), (X 2, .inl (gI g, 24, .inl (V 2))), (X 3, .inl (gI g, 24, .inl (V 3))), (X 4, .inl (gI g, 24, .inl (V 4))), (X 5, .inl (gI g, 192, .inl (V 5))), (X 6, .inl (gI g, 24, .inl (V 6))), (X 7, .inl (gI g, 24, .inl (V 7))), (X 8, .inl (gI g, 24, .inl (V 8)))] := hD
  refine lv_aload_n hx hb dX3_digestIn_0 rfl (lv_at hl 0 rfl) ?_
  refine lv_iload_n hx hb dX3_digestIn_1 rfl (lv_at hl 1 rfl) ?_
  refine lv_aload_n hx hb dX3_digestIn_2 rfl (lv_at hl 0 rfl) ?_
  refine va_get (D := gD g) (ci := 3) (v := .ref (X 3)) (C := RX3) (T := TX3) (N := 12) hx hb hts iX3 hown hK.1 hP 0 rfl rfl 6 (by decide) f19 (fun _ h9 => h9) rfl dX3_digestIn_3 ?_
  refine w_V (As := [.int (x), .ref (X 3)]) (rest := []) S (c_X3_ofEnvelope3_1 l g h X V th lc ec hlc hec x hxb) (cwV 2 hts gX3_digestIn_X3_ofEnvelope rfl rfl rfl (by decide +kernel) ⟨Nat.le_of_ble_eq_true rfl, Nat.le_of_ble_eq_true rfl⟩) hK (va_recv hK.1 hP (ci := 3) (q0 := 0) rfl rfl) hP (hD.weaken (fun _ _ _ _ => trivial)) hS (wA_D hD [0, 1, 2, 3, 4, 5, 6, 7, 8, 9] rfl) rfl hl.1 rfl (Nat.le_of_ble_eq_true rfl) dX3_digestIn_6 ⟨Nat.le_of_ble_eq_true rfl, Nat.le_of_ble_eq_true rfl⟩ (fun H locs hP1 hz1 hk1 hS => ?_)
  have hP : va_P (gD g) vwCl [(h, .inr (3, [.int (1), .int (nI lc), .ref (X 0), .ref (X 1), .int (nI ec), .ref (X 2), .ref (X 3), .ref (X 4), .ref (X 5), .ref (X 6), .ref (X 7), .ref (X 8)])), (X 0, .inl (gI g, 12, .inl (V 0))), (X 1, .inl (gI g, 480, .inl (V 1))), (X 2, .inl (gI g, 24, .inl (V 2))), (X 3, .inl (gI g, 24, .inl (V 3))), (X 4, .inl (gI g, 24, .inl (V 4))), (X 5, .inl (gI g, 192, .inl (V 5))), (X 6, .inl (gI g, 24, .inl (V 6))), (X 7, .inl (gI g, 24, .inl (V 7))), (X 8, .inl (gI g, 24, .inl (V 8)))] H := hP1
  have hD : va_D A [(h, .inr (3, [.int (1), .int (nI lc), .ref (X 0), .ref (X 1), .int (nI ec), .ref (X 2), .ref (X 3), .ref (X 4), .ref (X 5), .ref (X 6), .ref (X 7), .ref (X 8)])), (X 0, .inl (gI g, 12, .inl (V 0))), (X 1, .inl (gI g, 480, .inl (V 1))), (X 2, .inl (gI g, 24, .inl (V 2))), (X 3, .inl (gI g, 24, .inl (V 3))), (X 4, .inl (gI g, 24, .inl (V 4))), (X 5, .inl (gI g, 192, .inl (V 5))), (X 6, .inl (gI g, 24, .inl (V 6))), (X 7, .inl (gI g, 24, .inl (V 7))), (X 8, .inl (gI g, 24, .inl (V 8)))] := D_same hD rfl
  exact hret _ _ _ _ hP hS dX3_digestIn_9

set_option maxHeartbeats 4000000 in
set_option maxRecDepth 100000 in
/-- ofEnvelope8 -/
theorem c_X3_ofEnvelope8 (l : Launch) (g : gT) (h : Nat) (X : Nat → Nat) (V : Nat → Nat → Int32) (th : Int32) (lc ec : Nat) (NN : Nat → Nat) (hlc : lc ≤ 12) (hec : ec ≤ 24) (hNN : ∀ i, i < lc → V 0 i = nI (NN i) ∧ NN i ≤ 40) (LN SC : Nat → Nat) (hEN : ∀ q, q < ec → V 2 q = nI (LN q) ∧ LN q < lc ∧ V 4 q = nI (SC q) ∧ SC q ≤ 40) (q : Nat) (hq : q < ec) : wM g l yX3_ofEnvelope wsX3_ofEnvelope { frames := 2, cells := 0, slots := 0, locals := 43 } [.ref (h), .int (nI q), .ref (X 8)] (mdW g h X V th lc ec) (some (.int (V 8 q))) (mdW g h X V 0 lc ec) := by
  refine wr_ofI (cc := cX3_ofEnvelope) (maxL := 3) (by decide) rfl (Nat.le_of_ble_eq_true rfl) ?_
  intro p e s m args below meth c H0 ls A Q hx hb hml hts hown hK hP hD hS hl hret
  have hl : lv_has ls 3 [(0, .ref (h)), (1, .int (nI q)), (2, .ref (X 8))] := hl
  have S : CallFix p m c cX3_ofEnvelope 3 s args wsX3_ofEnvelope RX3 := ⟨hx, hb, hml, hown, hts⟩
  have hgq : inB (nI q) ec = true := inB_nI hq (by omega)
  have hLN := (hEN q hq).1
  have hLl := (hEN q hq).2.1
  have hSC := (hEN q hq).2.2.1
  have hSl := (hEN q hq).2.2.2
  have hVn := (hNN _ hLl).1
  have hn := (hNN _ hLl).2
  have iX3 : ∀ w ∈ u_ws RX3 TX3 12, w ∈ wsX3_ofEnvelope := by decide +kernel
  have f37 := hts (.fieldLink RX3 37 "LetterSealsModel" "thrown" "I") (by decide +kernel)
  obtain ⟨H, eH⟩ : ∃ H : Heap, H = H0 := ⟨_, rfl⟩
  rw [← eH] at hP ⊢
  have hS : va_S A H0 H [] := by rw [eH]; exact hS
  have hP : va_P (gD g) vwCl [(h, .inr (3, [.int (th), .int (nI lc), .ref (X 0), .ref (X 1), .int (nI ec), .ref (X 2), .ref (X 3), .ref (X 4), .ref (X 5), .ref (X 6), .ref (X 7), .ref (X 8)])), (X 0, .inl (gI g, 12, .inl (V 0))), (X 1, .inl (gI g, 480, .inl (V 1))), (X 2, .inl (gI g, 24, .inl (V 2))), (X 3, .inl (gI g, 24, .inl (V 3))), (X 4, .inl (gI g, 24, .inl (V 4))), (X 5, .inl (gI g, 192, .inl (V 5))), (X 6, .inl (gI g, 24, .inl (V 6))), (X 7, .inl (gI g, 24, .inl (V 7))), (X 8, .inl (gI g, 24, .inl (V 8)))] H := hP
  have hD : va_D A [(h, .inr (3, [.int (th), .int (nI lc), .ref (X 0), .ref (X 1), .int (nI ec), .ref (X 2), .ref (X 3), .ref (X 4), .ref (X 5), .ref (X 6), .ref (X 7), .ref (X 8)])), (X 0, .inl (gI g, 12, .inl (V 0))), (X 1, .inl (gI g, 480, .inl (V 1))), (X 2, .inl (gI g, 24, .inl (V 2))), (X 3, .inl (gI g, 24, .inl (V 3))), (X 4, .inl (gI g, 24, .inl (V 4))), (X 5, .inl (gI g, 192, .inl (V 5))), (X 6, .inl (gI g, 24, .inl (V 6))), (X 7, .inl (gI g, 24, .inl (V 7))), (X 8, .inl (gI g, 24, .inl (V 8)))] := hD
  refine lv_aload_n hx hb dX3_ofEnvelope_0 rfl (lv_at hl 0 rfl) ?_
  refine lv_iconst (v := 0) hx hb dX3_ofEnvelope_1 (by decide +kernel) ?_
  refine va_put (D := gD g) (ci := 3) (v := .int (0)) (ty := .int) (C := RX3) (T := TX3) (N := 12) hx hb hts iX3 tyX3 tyX3_ok nmX3 hown hK.1 hP hD hS 0 rfl rfl 0 (by decide) f37 (fun _ h9 => h9) rfl (by decide +kernel) rfl rfl (Nat.le_of_ble_eq_true rfl) dX3_ofEnvelope_2 (fun H locs hP hD hS => ?_)
  have hP : va_P (gD g) vwCl [(h, .inr (3, [.int (0), .int (nI lc), .ref (X 0), .ref (X 1), .int (nI ec), .ref (X 2), .ref (X 3), .ref (X 4), .ref (X 5), .ref (X 6), .ref (X 7), .ref (X 8)])), (X 0, .inl (gI g, 12, .inl (V 0))), (X 1, .inl (gI g, 480, .inl (V 1))), (X 2, .inl (gI g, 24, .inl (V 2))), (X 3, .inl (gI g, 24, .inl (V 3))), (X 4, .inl (gI g, 24, .inl (V 4))), (X 5, .inl (gI g, 192, .inl (V 5))), (X 6, .inl (gI g, 24, .inl (V 6))), (X 7, .inl (gI g, 24, .inl (V 7))), (X 8, .inl (gI g, 24, .inl (V 8)))] H := hP
  have hD : va_D A [(h, .inr (3, [.int (0), .int (nI lc), .ref (X 0), .ref (X 1), .int (nI ec), .ref (X 2), .ref (X 3), .ref (X 4), .ref (X 5), .ref (X 6), .ref (X 7), .ref (X 8)])), (X 0, .inl (gI g, 12, .inl (V 0))), (X 1, .inl (gI g, 480, .inl (V 1))), (X 2, .inl (gI g, 24, .inl (V 2))), (X 3, .inl (gI g, 24, .inl (V 3))), (X 4, .inl (gI g, 24, .inl (V 4))), (X 5, .inl (gI g, 192, .inl (V 5))), (X 6, .inl (gI g, 24, .inl (V 6))), (X 7, .inl (gI g, 24, .inl (V 7))), (X 8, .inl (gI g, 24, .inl (V 8)))] := hD
  refine lv_aload_n hx hb dX3_ofEnvelope_5 rfl (lv_at hl 0 rfl) ?_
  refine lv_iload_n hx hb dX3_ofEnvelope_6 rfl (lv_at hl 1 rfl) ?_
  refine p_V (As := [.int (nI q)]) (rest := []) S (c_X3_isEnvelope l g h X V 0 lc ec (nI q) hlc hec) (cwV 1 hts gX3_ofEnvelope_X3_isEnvelope rfl rfl rfl (by decide +kernel) ⟨Nat.le_of_ble_eq_true rfl, Nat.le_of_ble_eq_true rfl⟩) hK (va_recv hK.1 hP (ci := 3) (q0 := 0) rfl rfl) (hP) rfl hl.1 rfl (Nat.le_of_ble_eq_true rfl) dX3_ofEnvelope_7 ⟨Nat.le_of_ble_eq_true rfl, Nat.le_of_ble_eq_true rfl⟩ ?_
  refine br_eqB (tgt := 19) hx hb dX3_ofEnvelope_10 (by decide) (fun c10 => ?_) (fun c10 => ?_)
  · exact absurd c10 (by rw [hgq]; decide)
  · refine lv_aload_n hx hb dX3_ofEnvelope_13 rfl (lv_at hl 2 rfl) ?_
    refine lv_iload_n hx hb dX3_ofEnvelope_14 rfl (lv_at hl 1 rfl) ?_
    refine ld_I (k := q) (n := 24) (f := V 8) hx hb hK.1 hP 9 rfl (by omega) (by omega) dX3_ofEnvelope_15 ?_
    refine lv_goto (tgt := 24) hx hb dX3_ofEnvelope_16 (by decide) ?_
    exact hret _ _ _ _ hP hS dX3_ofEnvelope_24

set_option maxHeartbeats 4000000 in
set_option maxRecDepth 100000 in
/-- ofEnvelope8_1 -/
theorem c_X3_ofEnvelope8_1 (l : Launch) (g : gT) (h : Nat) (X : Nat → Nat) (V : Nat → Nat → Int32) (th : Int32) (lc ec : Nat) (hlc : lc ≤ 12) (hec : ec ≤ 24) (x : Int32) (hxb : inB x ec = false) : wM g l yX3_ofEnvelope wsX3_ofEnvelope { frames := 2, cells := 0, slots := 0, locals := 43 } [.ref (h), .int (x), .ref (X 8)] (mdW g h X V th lc ec) (some (.int (0))) (mdW g h X V 1 lc ec) := by
  refine wr_ofI (cc := cX3_ofEnvelope) (maxL := 3) (by decide) rfl (Nat.le_of_ble_eq_true rfl) ?_
  intro p e s m args below meth c H0 ls A Q hx hb hml hts hown hK hP hD hS hl hret
  have hl : lv_has ls 3 [(0, .ref (h)), (1, .int (x)), (2, .ref (X 8))] := hl
  have S : CallFix p m c cX3_ofEnvelope 3 s args wsX3_ofEnvelope RX3 := ⟨hx, hb, hml, hown, hts⟩
  have iX3 : ∀ w ∈ u_ws RX3 TX3 12, w ∈ wsX3_ofEnvelope := by decide +kernel
  have f37 := hts (.fieldLink RX3 37 "LetterSealsModel" "thrown" "I") (by decide +kernel)
  obtain ⟨H, eH⟩ : ∃ H : Heap, H = H0 := ⟨_, rfl⟩
  rw [← eH] at hP ⊢
  have hS : va_S A H0 H [] := by rw [eH]; exact hS
  have hP : va_P (gD g) vwCl [(h, .inr (3, [.int (th), .int (nI lc), .ref (X 0), .ref (X 1), .int (nI ec), .ref (X 2), .ref (X 3), .ref (X 4), .ref (X 5), .ref (X 6), .ref (X 7), .ref (X 8)])), (X 0, .inl (gI g, 12, .inl (V 0))), (X 1, .inl (gI g, 480, .inl (V 1))), (X 2, .inl (gI g, 24, .inl (V 2))), (X 3, .inl (gI g, 24, .inl (V 3))), (X 4, .inl (gI g, 24, .inl (V 4))), (X 5, .inl (gI g, 192, .inl (V 5))), (X 6, .inl (gI g, 24, .inl (V 6))), (X 7, .inl (gI g, 24, .inl (V 7))), (X 8, .inl (gI g, 24, .inl (V 8)))] H := hP
  have hD : va_D A [(h, .inr (3, [.int (th), .int (nI lc), .ref (X 0), .ref (X 1), .int (nI ec), .ref (X 2), .ref (X 3), .ref (X 4), .ref (X 5), .ref (X 6), .ref (X 7), .ref (X 8)])), (X 0, .inl (gI g, 12, .inl (V 0))), (X 1, .inl (gI g, 480, .inl (V 1))), (X 2, .inl (gI g, 24, .inl (V 2))), (X 3, .inl (gI g, 24, .inl (V 3))), (X 4, .inl (gI g, 24, .inl (V 4))), (X 5, .inl (gI g, 192, .inl (V 5))), (X 6, .inl (gI g, 24, .inl (V 6))), (X 7, .inl (gI g, 24, .inl (V 7))), (X 8, .inl (gI g, 24, .inl (V 8)))] := hD
  refine lv_aload_n hx hb dX3_ofEnvelope_0 rfl (lv_at hl 0 rfl) ?_
  refine lv_iconst (v := 0) hx hb dX3_ofEnvelope_1 (by decide +kernel) ?_
  refine va_put (D := gD g) (ci := 3) (v := .int (0)) (ty := .int) (C := RX3) (T := TX3) (N := 12) hx hb hts iX3 tyX3 tyX3_ok nmX3 hown hK.1 hP hD hS 0 rfl rfl 0 (by decide) f37 (fun _ h9 => h9) rfl (by decide +kernel) rfl rfl (Nat.le_of_ble_eq_true rfl) dX3_ofEnvelope_2 (fun H locs hP hD hS => ?_)
  have hP : va_P (gD g) vwCl [(h, .inr (3, [.int (0), .int (nI lc), .ref (X 0), .ref (X 1), .int (nI ec), .ref (X 2), .ref (X 3), .ref (X 4), .ref (X 5), .ref (X 6), .ref (X 7), .ref (X 8)])), (X 0, .inl (gI g, 12, .inl (V 0))), (X 1, .inl (gI g, 480, .inl (V 1))), (X 2, .inl (gI g, 24, .inl (V 2))), (X 3, .inl (gI g, 24, .inl (V 3))), (X 4, .inl (gI g, 24, .inl (V 4))), (X 5, .inl (gI g, 192, .inl (V 5))), (X 6, .inl (gI g, 24, .inl (V 6))), (X 7, .inl (gI g, 24, .inl (V 7))), (X 8, .inl (gI g, 24, .inl (V 8)))] H := hP
  have hD : va_D A [(h, .inr (3, [.int (0), .int (nI lc), .ref (X 0), .ref (X 1), .int (nI ec), .ref (X 2), .ref (X 3), .ref (X 4), .ref (X 5), .ref (X 6), .ref (X 7), .ref (X 8)])), (X 0, .inl (gI g, 12, .inl (V 0))), (X 1, .inl (gI g, 480, .inl (V 1))), (X 2, .inl (gI g, 24, .inl (V 2))), (X 3, .inl (gI g, 24, .inl (V 3))), (X 4, .inl (gI g, 24, .inl (V 4))), (X 5, .inl (gI g, 192, .inl (V 5))), (X 6, .inl (gI g, 24, .inl (V 6))), (X 7, .inl (gI g, 24, .inl (V 7))), (X 8, .inl (gI g, 24, .inl (V 8)))] := hD
  refine lv_aload_n hx hb dX3_ofEnvelope_5 rfl (lv_at hl 0 rfl) ?_
  refine lv_iload_n hx hb dX3_ofEnvelope_6 rfl (lv_at hl 1 rfl) ?_
  refine p_V (As := [.int (x)]) (rest := []) S (c_X3_isEnvelope l g h X V 0 lc ec (x) hlc hec) (cwV 1 hts gX3_ofEnvelope_X3_isEnvelope rfl rfl rfl (by decide +kernel) ⟨Nat.le_of_ble_eq_true rfl, Nat.le_of_ble_eq_true rfl⟩) hK (va_recv hK.1 hP (ci := 3) (q0 := 0) rfl rfl) (hP) rfl hl.1 rfl (Nat.le_of_ble_eq_true rfl) dX3_ofEnvelope_7 ⟨Nat.le_of_ble_eq_true rfl, Nat.le_of_ble_eq_true rfl⟩ ?_
  refine br_eqB (tgt := 19) hx hb dX3_ofEnvelope_10 (by decide) (fun c10 => ?_) (fun c10 => ?_)
  · refine lv_aload_n hx hb dX3_ofEnvelope_19 rfl (lv_at hl 0 rfl) ?_
    refine lv_iconst (v := 1) hx hb dX3_ofEnvelope_20 (by decide +kernel) ?_
    refine w_V (As := [.int (1)]) (rest := []) S (c_X3_no l g h X V 0 lc ec (1)) (cwV 1 hts gX3_ofEnvelope_X3_no rfl rfl rfl (by decide +kernel) ⟨Nat.le_of_ble_eq_true rfl, Nat.le_of_ble_eq_true rfl⟩) hK (va_recv hK.1 hP (ci := 3) (q0 := 0) rfl rfl) hP (hD.weaken (fun _ _ _ _ => trivial)) hS (wA_D hD [0, 1, 2, 3, 4, 5, 6, 7, 8, 9] rfl) rfl hl.1 rfl (Nat.le_of_ble_eq_true rfl) dX3_ofEnvelope_21 ⟨Nat.le_of_ble_eq_true rfl, Nat.le_of_ble_eq_true rfl⟩ (fun H locs hP1 hz1 hk1 hS => ?_)
    have hP : va_P (gD g) vwCl [(h, .inr (3, [.int (1), .int (nI lc), .ref (X 0), .ref (X 1), .int (nI ec), .ref (X 2), .ref (X 3), .ref (X 4), .ref (X 5), .ref (X 6), .ref (X 7), .ref (X 8)])), (X 0, .inl (gI g, 12, .inl (V 0))), (X 1, .inl (gI g, 480, .inl (V 1))), (X 2, .inl (gI g, 24, .inl (V 2))), (X 3, .inl (gI g, 24, .inl (V 3))), (X 4, .inl (gI g, 24, .inl (V 4))), (X 5, .inl (gI g, 192, .inl (V 5))), (X 6, .inl (gI g, 24, .inl (V 6))), (X 7, .inl (gI g, 24, .inl (V 7))), (X 8, .inl (gI g, 24, .inl (V 8)))] H := hP1
    have hD : va_D A [(h, .inr (3, [.int (1), .int (nI lc), .ref (X 0), .ref (X 1), .int (nI ec), .ref (X 2), .ref (X 3), .ref (X 4), .ref (X 5), .ref (X 6), .ref (X 7), .ref (X 8)])), (X 0, .inl (gI g, 12, .inl (V 0))), (X 1, .inl (gI g, 480, .inl (V 1))), (X 2, .inl (gI g, 24, .inl (V 2))), (X 3, .inl (gI g, 24, .inl (V 3))), (X 4, .inl (gI g, 24, .inl (V 4))), (X 5, .inl (gI g, 192, .inl (V 5))), (X 6, .inl (gI g, 24, .inl (V 6))), (X 7, .inl (gI g, 24, .inl (V 7))), (X 8, .inl (gI g, 24, .inl (V 8)))] := D_same hD rfl
    exact hret _ _ _ _ hP hS dX3_ofEnvelope_24
  · exact absurd c10 (by rw [hxb]; decide)

set_option maxHeartbeats 4000000 in
set_option maxRecDepth 100000 in
/-- sealOf -/
theorem c_X3_sealOf (l : Launch) (g : gT) (h : Nat) (X : Nat → Nat) (V : Nat → Nat → Int32) (th : Int32) (lc ec : Nat) (NN : Nat → Nat) (hlc : lc ≤ 12) (hec : ec ≤ 24) (hNN : ∀ i, i < lc → V 0 i = nI (NN i) ∧ NN i ≤ 40) (LN SC : Nat → Nat) (hEN : ∀ q, q < ec → V 2 q = nI (LN q) ∧ LN q < lc ∧ V 4 q = nI (SC q) ∧ SC q ≤ 40) (q : Nat) (hq : q < ec) : wM g l yX3_sealOf wsX3_sealOf { frames := 3, cells := 0, slots := 0, locals := 65 } [.ref (h), .int (nI q)] (mdW g h X V th lc ec) (some (.int (V 8 q))) (mdW g h X V 0 lc ec) := by
  refine wr_ofI (cc := cX3_sealOf) (maxL := 2) (by decide) rfl (Nat.le_of_ble_eq_true rfl) ?_
  intro p e s m args below meth c H0 ls A Q hx hb hml hts hown hK hP hD hS hl hret
  have hl : lv_has ls 2 [(0, .ref (h)), (1, .int (nI q))] := hl
  have S : CallFix p m c cX3_sealOf 2 s args wsX3_sealOf RX3 := ⟨hx, hb, hml, hown, hts⟩
  have iX3 : ∀ w ∈ u_ws RX3 TX3 12, w ∈ wsX3_sealOf := by decide +kernel
  have f34 := hts (.fieldLink RX3 34 "LetterSealsModel" "seals" "[I") (by decide +kernel)
  obtain ⟨H, eH⟩ : ∃ H : Heap, H = H0 := ⟨_, rfl⟩
  rw [← eH] at hP ⊢
  have hS : va_S A H0 H [] := by rw [eH]; exact hS
  have hP : va_P (gD g) vwCl [(h, .inr (3, [.int (th), .int (nI lc), .ref (X 0), .ref (X 1), .int (nI ec), .ref (X 2), .ref (X 3), .ref (X 4), .ref (X 5), .ref (X 6), .ref (X 7), .ref (X 8)])), (X 0, .inl (gI g, 12, .inl (V 0))), (X 1, .inl (gI g, 480, .inl (V 1))), (X 2, .inl (gI g, 24, .inl (V 2))), (X 3, .inl (gI g, 24, .inl (V 3))), (X 4, .inl (gI g, 24, .inl (V 4))), (X 5, .inl (gI g, 192, .inl (V 5))), (X 6, .inl (gI g, 24, .inl (V 6))), (X 7, .inl (gI g, 24, .inl (V 7))), (X 8, .inl (gI g, 24, .inl (V 8)))] H := hP
  have hD : va_D A [(h, .inr (3, [.int (th), .int (nI lc), .ref (X 0), .ref (X 1), .int (nI ec), .ref (X 2), .ref (X 3), .ref (X 4), .ref (X 5), .ref (X 6), .ref (X 7), .ref (X 8)])), (X 0, .inl (gI g, 12, .inl (V 0))), (X 1, .inl (gI g, 480, .inl (V 1))), (X 2, .inl (gI g, 24, .inl (V 2))), (X 3, .inl (gI g, 24, .inl (V 3))), (X 4, .inl (gI g, 24, .inl (V 4))), (X 5, .inl (gI g, 192, .inl (V 5))), (X 6, .inl (gI g, 24, .inl (V 6))), (X 7, .inl (gI g, 24, .inl (V 7))), (X 8, .inl (gI g, 24, .inl (V 8)))] := hD
  refine lv_aload_n hx hb dX3_sealOf_0 rfl (lv_at hl 0 rfl) ?_
  refine lv_iload_n hx hb dX3_sealOf_1 rfl (lv_at hl 1 rfl) ?_
  refine lv_aload_n hx hb dX3_sealOf_2 rfl (lv_at hl 0 rfl) ?_
  refine va_get (D := gD g) (ci := 3) (v := .ref (X 8)) (C := RX3) (T := TX3) (N := 12) hx hb hts iX3 hown hK.1 hP 0 rfl rfl 11 (by decide) f34 (fun _ h9 => h9) rfl dX3_sealOf_3 ?_
  refine w_V (As := [.int (nI q), .ref (X 8)]) (rest := []) S (c_X3_ofEnvelope8 l g h X V th lc ec NN hlc hec hNN LN SC hEN q hq) (cwV 2 hts gX3_sealOf_X3_ofEnvelope rfl rfl rfl (by decide +kernel) ⟨Nat.le_of_ble_eq_true rfl, Nat.le_of_ble_eq_true rfl⟩) hK (va_recv hK.1 hP (ci := 3) (q0 := 0) rfl rfl) hP (hD.weaken (fun _ _ _ _ => trivial)) hS (wA_D hD [0, 1, 2, 3, 4, 5, 6, 7, 8, 9] rfl) rfl hl.1 rfl (Nat.le_of_ble_eq_true rfl) dX3_sealOf_6 ⟨Nat.le_of_ble_eq_true rfl, Nat.le_of_ble_eq_true rfl⟩ (fun H locs hP1 hz1 hk1 hS => ?_)
  have hP : va_P (gD g) vwCl [(h, .inr (3, [.int (0), .int (nI lc), .ref (X 0), .ref (X 1), .int (nI ec), .ref (X 2), .ref (X 3), .ref (X 4), .ref (X 5), .ref (X 6), .ref (X 7), .ref (X 8)])), (X 0, .inl (gI g, 12, .inl (V 0))), (X 1, .inl (gI g, 480, .inl (V 1))), (X 2, .inl (gI g, 24, .inl (V 2))), (X 3, .inl (gI g, 24, .inl (V 3))), (X 4, .inl (gI g, 24, .inl (V 4))), (X 5, .inl (gI g, 192, .inl (V 5))), (X 6, .inl (gI g, 24, .inl (V 6))), (X 7, .inl (gI g, 24, .inl (V 7))), (X 8, .inl (gI g, 24, .inl (V 8)))] H := hP1
  have hD : va_D A [(h, .inr (3, [.int (0), .int (nI lc), .ref (X 0), .ref (X 1), .int (nI ec), .ref (X 2), .ref (X 3), .ref (X 4), .ref (X 5), .ref (X 6), .ref (X 7), .ref (X 8)])), (X 0, .inl (gI g, 12, .inl (V 0))), (X 1, .inl (gI g, 480, .inl (V 1))), (X 2, .inl (gI g, 24, .inl (V 2))), (X 3, .inl (gI g, 24, .inl (V 3))), (X 4, .inl (gI g, 24, .inl (V 4))), (X 5, .inl (gI g, 192, .inl (V 5))), (X 6, .inl (gI g, 24, .inl (V 6))), (X 7, .inl (gI g, 24, .inl (V 7))), (X 8, .inl (gI g, 24, .inl (V 8)))] := D_same hD rfl
  exact hret _ _ _ _ hP hS dX3_sealOf_9

set_option maxHeartbeats 4000000 in
set_option maxRecDepth 100000 in
/-- sealOf_1 -/
theorem c_X3_sealOf_1 (l : Launch) (g : gT) (h : Nat) (X : Nat → Nat) (V : Nat → Nat → Int32) (th : Int32) (lc ec : Nat) (hlc : lc ≤ 12) (hec : ec ≤ 24) (x : Int32) (hxb : inB x ec = false) : wM g l yX3_sealOf wsX3_sealOf { frames := 3, cells := 0, slots := 0, locals := 65 } [.ref (h), .int (x)] (mdW g h X V th lc ec) (some (.int (0))) (mdW g h X V 1 lc ec) := by
  refine wr_ofI (cc := cX3_sealOf) (maxL := 2) (by decide) rfl (Nat.le_of_ble_eq_true rfl) ?_
  intro p e s m args below meth c H0 ls A Q hx hb hml hts hown hK hP hD hS hl hret
  have hl : lv_has ls 2 [(0, .ref (h)), (1, .int (x))] := hl
  have S : CallFix p m c cX3_sealOf 2 s args wsX3_sealOf RX3 := ⟨hx, hb, hml, hown, hts⟩
  have iX3 : ∀ w ∈ u_ws RX3 TX3 12, w ∈ wsX3_sealOf := by decide +kernel
  have f34 := hts (.fieldLink RX3 34 "LetterSealsModel" "seals" "[I") (by decide +kernel)
  obtain ⟨H, eH⟩ : ∃ H : Heap, H = H0 := ⟨_, rfl⟩
  rw [← eH] at hP ⊢
  have hS : va_S A H0 H [] := by rw [eH]; exact hS
  have hP : va_P (gD g) vwCl [(h, .inr (3, [.int (th), .int (nI lc), .ref (X 0), .ref (X 1), .int (nI ec), .ref (X 2), .ref (X 3), .ref (X 4), .ref (X 5), .ref (X 6), .ref (X 7), .ref (X 8)])), (X 0, .inl (gI g, 12, .inl (V 0))), (X 1, .inl (gI g, 480, .inl (V 1))), (X 2, .inl (gI g, 24, .inl (V 2))), (X 3, .inl (gI g, 24, .inl (V 3))), (X 4, .inl (gI g, 24, .inl (V 4))), (X 5, .inl (gI g, 192, .inl (V 5))), (X 6, .inl (gI g, 24, .inl (V 6))), (X 7, .inl (gI g, 24, .inl (V 7))), (X 8, .inl (gI g, 24, .inl (V 8)))] H := hP
  have hD : va_D A [(h, .inr (3, [.int (th), .int (nI lc), .ref (X 0), .ref (X 1), .int (nI ec), .ref (X 2), .ref (X 3), .ref (X 4), .ref (X 5), .ref (X 6), .ref (X 7), .ref (X 8)])), (X 0, .inl (gI g, 12, .inl (V 0))), (X 1, .inl (gI g, 480, .inl (V 1))), (X 2, .inl (gI g, 24, .inl (V 2))), (X 3, .inl (gI g, 24, .inl (V 3))), (X 4, .inl (gI g, 24, .inl (V 4))), (X 5, .inl (gI g, 192, .inl (V 5))), (X 6, .inl (gI g, 24, .inl (V 6))), (X 7, .inl (gI g, 24, .inl (V 7))), (X 8, .inl (gI g, 24, .inl (V 8)))] := hD
  refine lv_aload_n hx hb dX3_sealOf_0 rfl (lv_at hl 0 rfl) ?_
  refine lv_iload_n hx hb dX3_sealOf_1 rfl (lv_at hl 1 rfl) ?_
  refine lv_aload_n hx hb dX3_sealOf_2 rfl (lv_at hl 0 rfl) ?_
  refine va_get (D := gD g) (ci := 3) (v := .ref (X 8)) (C := RX3) (T := TX3) (N := 12) hx hb hts iX3 hown hK.1 hP 0 rfl rfl 11 (by decide) f34 (fun _ h9 => h9) rfl dX3_sealOf_3 ?_
  refine w_V (As := [.int (x), .ref (X 8)]) (rest := []) S (c_X3_ofEnvelope8_1 l g h X V th lc ec hlc hec x hxb) (cwV 2 hts gX3_sealOf_X3_ofEnvelope rfl rfl rfl (by decide +kernel) ⟨Nat.le_of_ble_eq_true rfl, Nat.le_of_ble_eq_true rfl⟩) hK (va_recv hK.1 hP (ci := 3) (q0 := 0) rfl rfl) hP (hD.weaken (fun _ _ _ _ => trivial)) hS (wA_D hD [0, 1, 2, 3, 4, 5, 6, 7, 8, 9] rfl) rfl hl.1 rfl (Nat.le_of_ble_eq_true rfl) dX3_sealOf_6 ⟨Nat.le_of_ble_eq_true rfl, Nat.le_of_ble_eq_true rfl⟩ (fun H locs hP1 hz1 hk1 hS => ?_)
  have hP : va_P (gD g) vwCl [(h, .inr (3, [.int (1), .int (nI lc), .ref (X 0), .ref (X 1), .int (nI ec), .ref (X 2), .ref (X 3), .ref (X 4), .ref (X 5), .ref (X 6), .ref (X 7), .ref (X 8)])), (X 0, .inl (gI g, 12, .inl (V 0))), (X 1, .inl (gI g, 480, .inl (V 1))), (X 2, .inl (gI g, 24, .inl (V 2))), (X 3, .inl (gI g, 24, .inl (V 3))), (X 4, .inl (gI g, 24, .inl (V 4))), (X 5, .inl (gI g, 192, .inl (V 5))), (X 6, .inl (gI g, 24, .inl (V 6))), (X 7, .inl (gI g, 24, .inl (V 7))), (X 8, .inl (gI g, 24, .inl (V 8)))] H := hP1
  have hD : va_D A [(h, .inr (3, [.int (1), .int (nI lc), .ref (X 0), .ref (X 1), .int (nI ec), .ref (X 2), .ref (X 3), .ref (X 4), .ref (X 5), .ref (X 6), .ref (X 7), .ref (X 8)])), (X 0, .inl (gI g, 12, .inl (V 0))), (X 1, .inl (gI g, 480, .inl (V 1))), (X 2, .inl (gI g, 24, .inl (V 2))), (X 3, .inl (gI g, 24, .inl (V 3))), (X 4, .inl (gI g, 24, .inl (V 4))), (X 5, .inl (gI g, 192, .inl (V 5))), (X 6, .inl (gI g, 24, .inl (V 6))), (X 7, .inl (gI g, 24, .inl (V 7))), (X 8, .inl (gI g, 24, .inl (V 8)))] := D_same hD rfl
  exact hret _ _ _ _ hP hS dX3_sealOf_9

set_option maxHeartbeats 4000000 in
set_option maxRecDepth 100000 in
/-- isWhole -/
theorem c_X3_isWhole (l : Launch) (g : gT) (h : Nat) (X : Nat → Nat) (V : Nat → Nat → Int32) (th : Int32) (lc ec : Nat) (NN : Nat → Nat) (hlc : lc ≤ 12) (hec : ec ≤ 24) (hNN : ∀ i, i < lc → V 0 i = nI (NN i) ∧ NN i ≤ 40) (LN SC : Nat → Nat) (hEN : ∀ q, q < ec → V 2 q = nI (LN q) ∧ LN q < lc ∧ V 4 q = nI (SC q) ∧ SC q ≤ 40) (q : Nat) (hq : q < ec) : wM g l yX3_isWhole wsX3_isWhole { frames := 4, cells := 0, slots := 0, locals := 89 } [.ref (h), .int (nI q)] (mdW g h X V th lc ec) (some (.int (bI (asP V NN LN q)))) (mdW g h X V 0 lc ec) := by
  refine wr_ofZ (cc := cX3_isWhole) (maxL := 2) (bI_n _) (by decide) rfl (Nat.le_of_ble_eq_true rfl) ?_
  intro p e s m args below meth c H0 ls A Q hx hb hml hts hown hK hP hD hS hl hret
  have hl : lv_has ls 2 [(0, .ref (h)), (1, .int (nI q))] := hl
  have S : CallFix p m c cX3_isWhole 2 s args wsX3_isWhole RX3 := ⟨hx, hb, hml, hown, hts⟩
  have hgq : inB (nI q) ec = true := inB_nI hq (by omega)
  have hLN := (hEN q hq).1
  have hLl := (hEN q hq).2.1
  have hSC := (hEN q hq).2.2.1
  have hSl := (hEN q hq).2.2.2
  have hVn := (hNN _ hLl).1
  have hn := (hNN _ hLl).2
  have iX3 : ∀ w ∈ u_ws RX3 TX3 12, w ∈ wsX3_isWhole := by decide +kernel
  have f37 := hts (.fieldLink RX3 37 "LetterSealsModel" "thrown" "I") (by decide +kernel)
  obtain ⟨H, eH⟩ : ∃ H : Heap, H = H0 := ⟨_, rfl⟩
  rw [← eH] at hP ⊢
  have hS : va_S A H0 H [] := by rw [eH]; exact hS
  have hP : va_P (gD g) vwCl [(h, .inr (3, [.int (th), .int (nI lc), .ref (X 0), .ref (X 1), .int (nI ec), .ref (X 2), .ref (X 3), .ref (X 4), .ref (X 5), .ref (X 6), .ref (X 7), .ref (X 8)])), (X 0, .inl (gI g, 12, .inl (V 0))), (X 1, .inl (gI g, 480, .inl (V 1))), (X 2, .inl (gI g, 24, .inl (V 2))), (X 3, .inl (gI g, 24, .inl (V 3))), (X 4, .inl (gI g, 24, .inl (V 4))), (X 5, .inl (gI g, 192, .inl (V 5))), (X 6, .inl (gI g, 24, .inl (V 6))), (X 7, .inl (gI g, 24, .inl (V 7))), (X 8, .inl (gI g, 24, .inl (V 8)))] H := hP
  have hD : va_D A [(h, .inr (3, [.int (th), .int (nI lc), .ref (X 0), .ref (X 1), .int (nI ec), .ref (X 2), .ref (X 3), .ref (X 4), .ref (X 5), .ref (X 6), .ref (X 7), .ref (X 8)])), (X 0, .inl (gI g, 12, .inl (V 0))), (X 1, .inl (gI g, 480, .inl (V 1))), (X 2, .inl (gI g, 24, .inl (V 2))), (X 3, .inl (gI g, 24, .inl (V 3))), (X 4, .inl (gI g, 24, .inl (V 4))), (X 5, .inl (gI g, 192, .inl (V 5))), (X 6, .inl (gI g, 24, .inl (V 6))), (X 7, .inl (gI g, 24, .inl (V 7))), (X 8, .inl (gI g, 24, .inl (V 8)))] := hD
  refine lv_aload_n hx hb dX3_isWhole_0 rfl (lv_at hl 0 rfl) ?_
  refine lv_aload_n hx hb dX3_isWhole_1 rfl (lv_at hl 0 rfl) ?_
  refine lv_iload_n hx hb dX3_isWhole_2 rfl (lv_at hl 1 rfl) ?_
  refine p_V (As := [.int (nI q)]) (rest := [.ref (h)]) S (c_X3_isEnvelope l g h X V th lc ec (nI q) hlc hec) (cwV 1 hts gX3_isWhole_X3_isEnvelope rfl rfl rfl (by decide +kernel) ⟨Nat.le_of_ble_eq_true rfl, Nat.le_of_ble_eq_true rfl⟩) hK (va_recv hK.1 hP (ci := 3) (q0 := 0) rfl rfl) (hP) rfl hl.1 rfl (Nat.le_of_ble_eq_true rfl) dX3_isWhole_3 ⟨Nat.le_of_ble_eq_true rfl, Nat.le_of_ble_eq_true rfl⟩ ?_
  refine br_eqB (tgt := 13) hx hb dX3_isWhole_6 (by decide) (fun c6 => ?_) (fun c6 => ?_)
  · exact absurd c6 (by rw [hgq]; decide)
  · refine lv_iconst (v := 0) hx hb dX3_isWhole_9 (by decide +kernel) ?_
    refine lv_goto (tgt := 14) hx hb dX3_isWhole_10 (by decide) ?_
    refine va_put (D := gD g) (ci := 3) (v := .int (0)) (ty := .int) (C := RX3) (T := TX3) (N := 12) hx hb hts iX3 tyX3 tyX3_ok nmX3 hown hK.1 hP hD hS 0 rfl rfl 0 (by decide) f37 (fun _ h9 => h9) rfl (by decide +kernel) rfl rfl (Nat.le_of_ble_eq_true rfl) dX3_isWhole_14 (fun H locs hP hD hS => ?_)
    have hP : va_P (gD g) vwCl [(h, .inr (3, [.int (0), .int (nI lc), .ref (X 0), .ref (X 1), .int (nI ec), .ref (X 2), .ref (X 3), .ref (X 4), .ref (X 5), .ref (X 6), .ref (X 7), .ref (X 8)])), (X 0, .inl (gI g, 12, .inl (V 0))), (X 1, .inl (gI g, 480, .inl (V 1))), (X 2, .inl (gI g, 24, .inl (V 2))), (X 3, .inl (gI g, 24, .inl (V 3))), (X 4, .inl (gI g, 24, .inl (V 4))), (X 5, .inl (gI g, 192, .inl (V 5))), (X 6, .inl (gI g, 24, .inl (V 6))), (X 7, .inl (gI g, 24, .inl (V 7))), (X 8, .inl (gI g, 24, .inl (V 8)))] H := hP
    have hD : va_D A [(h, .inr (3, [.int (0), .int (nI lc), .ref (X 0), .ref (X 1), .int (nI ec), .ref (X 2), .ref (X 3), .ref (X 4), .ref (X 5), .ref (X 6), .ref (X 7), .ref (X 8)])), (X 0, .inl (gI g, 12, .inl (V 0))), (X 1, .inl (gI g, 480, .inl (V 1))), (X 2, .inl (gI g, 24, .inl (V 2))), (X 3, .inl (gI g, 24, .inl (V 3))), (X 4, .inl (gI g, 24, .inl (V 4))), (X 5, .inl (gI g, 192, .inl (V 5))), (X 6, .inl (gI g, 24, .inl (V 6))), (X 7, .inl (gI g, 24, .inl (V 7))), (X 8, .inl (gI g, 24, .inl (V 8)))] := hD
    refine lv_aload_n hx hb dX3_isWhole_17 rfl (lv_at hl 0 rfl) ?_
    refine va_get (D := gD g) (ci := 3) (v := .int (0)) (C := RX3) (T := TX3) (N := 12) hx hb hts iX3 hown hK.1 hP 0 rfl rfl 0 (by decide) f37 (fun _ h9 => h9) rfl dX3_isWhole_18 ?_
    refine lv_if_ne (tgt := 36) hx hb dX3_isWhole_21 (by decide) (fun c21 => ?_) (fun c21 => ?_)
    · exact absurd rfl c21
    · refine lv_aload_n hx hb dX3_isWhole_24 rfl (lv_at hl 0 rfl) ?_
      refine lv_iload_n hx hb dX3_isWhole_25 rfl (lv_at hl 1 rfl) ?_
      refine p_V (As := [.int (nI q)]) (rest := []) S (c_X3_isAsWritten l g h X V 0 lc ec NN hlc hec hNN LN SC hEN q hq) (cwV 1 hts gX3_isWhole_X3_isAsWritten rfl rfl rfl (by decide +kernel) ⟨Nat.le_of_ble_eq_true rfl, Nat.le_of_ble_eq_true rfl⟩) hK (va_recv hK.1 hP (ci := 3) (q0 := 0) rfl rfl) (hP) rfl hl.1 rfl (Nat.le_of_ble_eq_true rfl) dX3_isWhole_26 ⟨Nat.le_of_ble_eq_true rfl, Nat.le_of_ble_eq_true rfl⟩ ?_
      refine br_eqB (tgt := 36) hx hb dX3_isWhole_29 (by decide) (fun c29 => ?_) (fun c29 => ?_)
      · refine lv_iconst (v := bI false) hx hb dX3_isWhole_36 (by decide +kernel) ?_
        refine lv_toI (z := bI (asP V NN LN q)) (by rw [c29]) ?_
        exact hret _ _ _ _ hP hS dX3_isWhole_37
      · refine lv_iconst (v := bI true) hx hb dX3_isWhole_32 (by decide +kernel) ?_
        refine lv_goto (tgt := 37) hx hb dX3_isWhole_33 (by decide) ?_
        refine lv_toI (z := bI (asP V NN LN q)) (by rw [c29]) ?_
        exact hret _ _ _ _ hP hS dX3_isWhole_37

set_option maxHeartbeats 4000000 in
set_option maxRecDepth 100000 in
/-- isWhole_1 -/
theorem c_X3_isWhole_1 (l : Launch) (g : gT) (h : Nat) (X : Nat → Nat) (V : Nat → Nat → Int32) (th : Int32) (lc ec : Nat) (hlc : lc ≤ 12) (hec : ec ≤ 24) (x : Int32) (hxb : inB x ec = false) : wM g l yX3_isWhole wsX3_isWhole { frames := 4, cells := 0, slots := 0, locals := 89 } [.ref (h), .int (x)] (mdW g h X V th lc ec) (some (.int (bI false))) (mdW g h X V 1 lc ec) := by
  refine wr_ofZ (cc := cX3_isWhole) (maxL := 2) (bI_n _) (by decide) rfl (Nat.le_of_ble_eq_true rfl) ?_
  intro p e s m args below meth c H0 ls A Q hx hb hml hts hown hK hP hD hS hl hret
  have hl : lv_has ls 2 [(0, .ref (h)), (1, .int (x))] := hl
  have S : CallFix p m c cX3_isWhole 2 s args wsX3_isWhole RX3 := ⟨hx, hb, hml, hown, hts⟩
  have iX3 : ∀ w ∈ u_ws RX3 TX3 12, w ∈ wsX3_isWhole := by decide +kernel
  have f37 := hts (.fieldLink RX3 37 "LetterSealsModel" "thrown" "I") (by decide +kernel)
  obtain ⟨H, eH⟩ : ∃ H : Heap, H = H0 := ⟨_, rfl⟩
  rw [← eH] at hP ⊢
  have hS : va_S A H0 H [] := by rw [eH]; exact hS
  have hP : va_P (gD g) vwCl [(h, .inr (3, [.int (th), .int (nI lc), .ref (X 0), .ref (X 1), .int (nI ec), .ref (X 2), .ref (X 3), .ref (X 4), .ref (X 5), .ref (X 6), .ref (X 7), .ref (X 8)])), (X 0, .inl (gI g, 12, .inl (V 0))), (X 1, .inl (gI g, 480, .inl (V 1))), (X 2, .inl (gI g, 24, .inl (V 2))), (X 3, .inl (gI g, 24, .inl (V 3))), (X 4, .inl (gI g, 24, .inl (V 4))), (X 5, .inl (gI g, 192, .inl (V 5))), (X 6, .inl (gI g, 24, .inl (V 6))), (X 7, .inl (gI g, 24, .inl (V 7))), (X 8, .inl (gI g, 24, .inl (V 8)))] H := hP
  have hD : va_D A [(h, .inr (3, [.int (th), .int (nI lc), .ref (X 0), .ref (X 1), .int (nI ec), .ref (X 2), .ref (X 3), .ref (X 4), .ref (X 5), .ref (X 6), .ref (X 7), .ref (X 8)])), (X 0, .inl (gI g, 12, .inl (V 0))), (X 1, .inl (gI g, 480, .inl (V 1))), (X 2, .inl (gI g, 24, .inl (V 2))), (X 3, .inl (gI g, 24, .inl (V 3))), (X 4, .inl (gI g, 24, .inl (V 4))), (X 5, .inl (gI g, 192, .inl (V 5))), (X 6, .inl (gI g, 24, .inl (V 6))), (X 7, .inl (gI g, 24, .inl (V 7))), (X 8, .inl (gI g, 24, .inl (V 8)))] := hD
  refine lv_aload_n hx hb dX3_isWhole_0 rfl (lv_at hl 0 rfl) ?_
  refine lv_aload_n hx hb dX3_isWhole_1 rfl (lv_at hl 0 rfl) ?_
  refine lv_iload_n hx hb dX3_isWhole_2 rfl (lv_at hl 1 rfl) ?_
  refine p_V (As := [.int (x)]) (rest := [.ref (h)]) S (c_X3_isEnvelope l g h X V th lc ec (x) hlc hec) (cwV 1 hts gX3_isWhole_X3_isEnvelope rfl rfl rfl (by decide +kernel) ⟨Nat.le_of_ble_eq_true rfl, Nat.le_of_ble_eq_true rfl⟩) hK (va_recv hK.1 hP (ci := 3) (q0 := 0) rfl rfl) (hP) rfl hl.1 rfl (Nat.le_of_ble_eq_true rfl) dX3_isWhole_3 ⟨Nat.le_of_ble_eq_true rfl, Nat.le_of_ble_eq_true rfl⟩ ?_
  refine br_eqB (tgt := 13) hx hb dX3_isWhole_6 (by decide) (fun c6 => ?_) (fun c6 => ?_)
  · refine lv_iconst (v := 1) hx hb dX3_isWhole_13 (by decide +kernel) ?_
    refine va_put (D := gD g) (ci := 3) (v := .int (1)) (ty := .int) (C := RX3) (T := TX3) (N := 12) hx hb hts iX3 tyX3 tyX3_ok nmX3 hown hK.1 hP hD hS 0 rfl rfl 0 (by decide) f37 (fun _ h9 => h9) rfl (by decide +kernel) rfl rfl (Nat.le_of_ble_eq_true rfl) dX3_isWhole_14 (fun H locs hP hD hS => ?_)
    have hP : va_P (gD g) vwCl [(h, .inr (3, [.int (1), .int (nI lc), .ref (X 0), .ref (X 1), .int (nI ec), .ref (X 2), .ref (X 3), .ref (X 4), .ref (X 5), .ref (X 6), .ref (X 7), .ref (X 8)])), (X 0, .inl (gI g, 12, .inl (V 0))), (X 1, .inl (gI g, 480, .inl (V 1))), (X 2, .inl (gI g, 24, .inl (V 2))), (X 3, .inl (gI g, 24, .inl (V 3))), (X 4, .inl (gI g, 24, .inl (V 4))), (X 5, .inl (gI g, 192, .inl (V 5))), (X 6, .inl (gI g, 24, .inl (V 6))), (X 7, .inl (gI g, 24, .inl (V 7))), (X 8, .inl (gI g, 24, .inl (V 8)))] H := hP
    have hD : va_D A [(h, .inr (3, [.int (1), .int (nI lc), .ref (X 0), .ref (X 1), .int (nI ec), .ref (X 2), .ref (X 3), .ref (X 4), .ref (X 5), .ref (X 6), .ref (X 7), .ref (X 8)])), (X 0, .inl (gI g, 12, .inl (V 0))), (X 1, .inl (gI g, 480, .inl (V 1))), (X 2, .inl (gI g, 24, .inl (V 2))), (X 3, .inl (gI g, 24, .inl (V 3))), (X 4, .inl (gI g, 24, .inl (V 4))), (X 5, .inl (gI g, 192, .inl (V 5))), (X 6, .inl (gI g, 24, .inl (V 6))), (X 7, .inl (gI g, 24, .inl (V 7))), (X 8, .inl (gI g, 24, .inl (V 8)))] := hD
    refine lv_aload_n hx hb dX3_isWhole_17 rfl (lv_at hl 0 rfl) ?_
    refine va_get (D := gD g) (ci := 3) (v := .int (1)) (C := RX3) (T := TX3) (N := 12) hx hb hts iX3 hown hK.1 hP 0 rfl rfl 0 (by decide) f37 (fun _ h9 => h9) rfl dX3_isWhole_18 ?_
    refine lv_if_ne (tgt := 36) hx hb dX3_isWhole_21 (by decide) (fun c21 => ?_) (fun c21 => ?_)
    · refine lv_iconst (v := bI false) hx hb dX3_isWhole_36 (by decide +kernel) ?_
      exact hret _ _ _ _ hP hS dX3_isWhole_37
    · exact absurd c21 (by decide +kernel)
  · exact absurd c6 (by rw [hxb]; decide)

set_option maxHeartbeats 4000000 in
set_option maxRecDepth 100000 in
/-- tornBlocks -/
theorem c_X3_tornBlocks (l : Launch) (g : gT) (h : Nat) (X : Nat → Nat) (V : Nat → Nat → Int32) (th : Int32) (lc ec : Nat) (NN : Nat → Nat) (hlc : lc ≤ 12) (hec : ec ≤ 24) (hNN : ∀ i, i < lc → V 0 i = nI (NN i) ∧ NN i ≤ 40) (LN SC : Nat → Nat) (hEN : ∀ q, q < ec → V 2 q = nI (LN q) ∧ LN q < lc ∧ V 4 q = nI (SC q) ∧ SC q ≤ 40) (q : Nat) (hq : q < ec) : wM g l yX3_tornBlocks wsX3_tornBlocks { frames := 4, cells := 0, slots := 0, locals := 94 } [.ref (h), .int (nI q)] (mdW g h X V th lc ec) (some (.int (acF (toP V NN LN SC q) 0 8))) (mdW g h X V 0 lc ec) := by
  refine wr_ofI (cc := cX3_tornBlocks) (maxL := 2) (by decide) rfl (Nat.le_of_ble_eq_true rfl) ?_
  intro p e s m args below meth c H0 ls A Q hx hb hml hts hown hK hP hD hS hl hret
  have hl : lv_has ls 2 [(0, .ref (h)), (1, .int (nI q))] := hl
  have S : CallFix p m c cX3_tornBlocks 2 s args wsX3_tornBlocks RX3 := ⟨hx, hb, hml, hown, hts⟩
  have hgq : inB (nI q) ec = true := inB_nI hq (by omega)
  have hLN := (hEN q hq).1
  have hLl := (hEN q hq).2.1
  have hSC := (hEN q hq).2.2.1
  have hSl := (hEN q hq).2.2.2
  have hVn := (hNN _ hLl).1
  have hn := (hNN _ hLl).2
  have iX3 : ∀ w ∈ u_ws RX3 TX3 12, w ∈ wsX3_tornBlocks := by decide +kernel
  have f37 := hts (.fieldLink RX3 37 "LetterSealsModel" "thrown" "I") (by decide +kernel)
  obtain ⟨H, eH⟩ : ∃ H : Heap, H = H0 := ⟨_, rfl⟩
  rw [← eH] at hP ⊢
  have hS : va_S A H0 H [] := by rw [eH]; exact hS
  have hP : va_P (gD g) vwCl [(h, .inr (3, [.int (th), .int (nI lc), .ref (X 0), .ref (X 1), .int (nI ec), .ref (X 2), .ref (X 3), .ref (X 4), .ref (X 5), .ref (X 6), .ref (X 7), .ref (X 8)])), (X 0, .inl (gI g, 12, .inl (V 0))), (X 1, .inl (gI g, 480, .inl (V 1))), (X 2, .inl (gI g, 24, .inl (V 2))), (X 3, .inl (gI g, 24, .inl (V 3))), (X 4, .inl (gI g, 24, .inl (V 4))), (X 5, .inl (gI g, 192, .inl (V 5))), (X 6, .inl (gI g, 24, .inl (V 6))), (X 7, .inl (gI g, 24, .inl (V 7))), (X 8, .inl (gI g, 24, .inl (V 8)))] H := hP
  have hD : va_D A [(h, .inr (3, [.int (th), .int (nI lc), .ref (X 0), .ref (X 1), .int (nI ec), .ref (X 2), .ref (X 3), .ref (X 4), .ref (X 5), .ref (X 6), .ref (X 7), .ref (X 8)])), (X 0, .inl (gI g, 12, .inl (V 0))), (X 1, .inl (gI g, 480, .inl (V 1))), (X 2, .inl (gI g, 24, .inl (V 2))), (X 3, .inl (gI g, 24, .inl (V 3))), (X 4, .inl (gI g, 24, .inl (V 4))), (X 5, .inl (gI g, 192, .inl (V 5))), (X 6, .inl (gI g, 24, .inl (V 6))), (X 7, .inl (gI g, 24, .inl (V 7))), (X 8, .inl (gI g, 24, .inl (V 8)))] := hD
  refine lv_aload_n hx hb dX3_tornBlocks_0 rfl (lv_at hl 0 rfl) ?_
  refine lv_iconst (v := 0) hx hb dX3_tornBlocks_1 (by decide +kernel) ?_
  refine va_put (D := gD g) (ci := 3) (v := .int (0)) (ty := .int) (C := RX3) (T := TX3) (N := 12) hx hb hts iX3 tyX3 tyX3_ok nmX3 hown hK.1 hP hD hS 0 rfl rfl 0 (by decide) f37 (fun _ h9 => h9) rfl (by decide +kernel) rfl rfl (Nat.le_of_ble_eq_true rfl) dX3_tornBlocks_2 (fun H locs hP hD hS => ?_)
  have hP : va_P (gD g) vwCl [(h, .inr (3, [.int (0), .int (nI lc), .ref (X 0), .ref (X 1), .int (nI ec), .ref (X 2), .ref (X 3), .ref (X 4), .ref (X 5), .ref (X 6), .ref (X 7), .ref (X 8)])), (X 0, .inl (gI g, 12, .inl (V 0))), (X 1, .inl (gI g, 480, .inl (V 1))), (X 2, .inl (gI g, 24, .inl (V 2))), (X 3, .inl (gI g, 24, .inl (V 3))), (X 4, .inl (gI g, 24, .inl (V 4))), (X 5, .inl (gI g, 192, .inl (V 5))), (X 6, .inl (gI g, 24, .inl (V 6))), (X 7, .inl (gI g, 24, .inl (V 7))), (X 8, .inl (gI g, 24, .inl (V 8)))] H := hP
  have hD : va_D A [(h, .inr (3, [.int (0), .int (nI lc), .ref (X 0), .ref (X 1), .int (nI ec), .ref (X 2), .ref (X 3), .ref (X 4), .ref (X 5), .ref (X 6), .ref (X 7), .ref (X 8)])), (X 0, .inl (gI g, 12, .inl (V 0))), (X 1, .inl (gI g, 480, .inl (V 1))), (X 2, .inl (gI g, 24, .inl (V 2))), (X 3, .inl (gI g, 24, .inl (V 3))), (X 4, .inl (gI g, 24, .inl (V 4))), (X 5, .inl (gI g, 192, .inl (V 5))), (X 6, .inl (gI g, 24, .inl (V 6))), (X 7, .inl (gI g, 24, .inl (V 7))), (X 8, .inl (gI g, 24, .inl (V 8)))] := hD
  refine lv_aload_n hx hb dX3_tornBlocks_5 rfl (lv_at hl 0 rfl) ?_
  refine lv_iload_n hx hb dX3_tornBlocks_6 rfl (lv_at hl 1 rfl) ?_
  refine p_V (As := [.int (nI q)]) (rest := []) S (c_X3_isEnvelope l g h X V 0 lc ec (nI q) hlc hec) (cwV 1 hts gX3_tornBlocks_X3_isEnvelope rfl rfl rfl (by decide +kernel) ⟨Nat.le_of_ble_eq_true rfl, Nat.le_of_ble_eq_true rfl⟩) hK (va_recv hK.1 hP (ci := 3) (q0 := 0) rfl rfl) (hP) rfl hl.1 rfl (Nat.le_of_ble_eq_true rfl) dX3_tornBlocks_7 ⟨Nat.le_of_ble_eq_true rfl, Nat.le_of_ble_eq_true rfl⟩ ?_
  refine br_eqB (tgt := 22) hx hb dX3_tornBlocks_10 (by decide) (fun c10 => ?_) (fun c10 => ?_)
  · exact absurd c10 (by rw [hgq]; decide)
  · refine lv_aload_n hx hb dX3_tornBlocks_13 rfl (lv_at hl 0 rfl) ?_
    refine lv_iload_n hx hb dX3_tornBlocks_14 rfl (lv_at hl 1 rfl) ?_
    refine lv_iconst (v := 0) hx hb dX3_tornBlocks_15 (by decide +kernel) ?_
    refine p_V (As := [.int (nI q), .int (0)]) (rest := []) S (c_X3_torn0 l g h X V 0 lc ec NN hlc hec hNN LN SC hEN q hq) (cwV 2 hts gX3_tornBlocks_X3_torn rfl rfl rfl (by decide +kernel) ⟨Nat.le_of_ble_eq_true rfl, Nat.le_of_ble_eq_true rfl⟩) hK (va_recv hK.1 hP (ci := 3) (q0 := 0) rfl rfl) (hP) rfl hl.1 rfl (Nat.le_of_ble_eq_true rfl) dX3_tornBlocks_16 ⟨Nat.le_of_ble_eq_true rfl, Nat.le_of_ble_eq_true rfl⟩ ?_
    refine lv_goto (tgt := 27) hx hb dX3_tornBlocks_19 (by decide) ?_
    exact hret _ _ _ _ hP hS dX3_tornBlocks_27

set_option maxHeartbeats 4000000 in
set_option maxRecDepth 100000 in
/-- tornBlocks_1 -/
theorem c_X3_tornBlocks_1 (l : Launch) (g : gT) (h : Nat) (X : Nat → Nat) (V : Nat → Nat → Int32) (th : Int32) (lc ec : Nat) (hlc : lc ≤ 12) (hec : ec ≤ 24) (x : Int32) (hxb : inB x ec = false) : wM g l yX3_tornBlocks wsX3_tornBlocks { frames := 4, cells := 0, slots := 0, locals := 94 } [.ref (h), .int (x)] (mdW g h X V th lc ec) (some (.int (0))) (mdW g h X V 1 lc ec) := by
  refine wr_ofI (cc := cX3_tornBlocks) (maxL := 2) (by decide) rfl (Nat.le_of_ble_eq_true rfl) ?_
  intro p e s m args below meth c H0 ls A Q hx hb hml hts hown hK hP hD hS hl hret
  have hl : lv_has ls 2 [(0, .ref (h)), (1, .int (x))] := hl
  have S : CallFix p m c cX3_tornBlocks 2 s args wsX3_tornBlocks RX3 := ⟨hx, hb, hml, hown, hts⟩
  have iX3 : ∀ w ∈ u_ws RX3 TX3 12, w ∈ wsX3_tornBlocks := by decide +kernel
  have f37 := hts (.fieldLink RX3 37 "LetterSealsModel" "thrown" "I") (by decide +kernel)
  obtain ⟨H, eH⟩ : ∃ H : Heap, H = H0 := ⟨_, rfl⟩
  rw [← eH] at hP ⊢
  have hS : va_S A H0 H [] := by rw [eH]; exact hS
  have hP : va_P (gD g) vwCl [(h, .inr (3, [.int (th), .int (nI lc), .ref (X 0), .ref (X 1), .int (nI ec), .ref (X 2), .ref (X 3), .ref (X 4), .ref (X 5), .ref (X 6), .ref (X 7), .ref (X 8)])), (X 0, .inl (gI g, 12, .inl (V 0))), (X 1, .inl (gI g, 480, .inl (V 1))), (X 2, .inl (gI g, 24, .inl (V 2))), (X 3, .inl (gI g, 24, .inl (V 3))), (X 4, .inl (gI g, 24, .inl (V 4))), (X 5, .inl (gI g, 192, .inl (V 5))), (X 6, .inl (gI g, 24, .inl (V 6))), (X 7, .inl (gI g, 24, .inl (V 7))), (X 8, .inl (gI g, 24, .inl (V 8)))] H := hP
  have hD : va_D A [(h, .inr (3, [.int (th), .int (nI lc), .ref (X 0), .ref (X 1), .int (nI ec), .ref (X 2), .ref (X 3), .ref (X 4), .ref (X 5), .ref (X 6), .ref (X 7), .ref (X 8)])), (X 0, .inl (gI g, 12, .inl (V 0))), (X 1, .inl (gI g, 480, .inl (V 1))), (X 2, .inl (gI g, 24, .inl (V 2))), (X 3, .inl (gI g, 24, .inl (V 3))), (X 4, .inl (gI g, 24, .inl (V 4))), (X 5, .inl (gI g, 192, .inl (V 5))), (X 6, .inl (gI g, 24, .inl (V 6))), (X 7, .inl (gI g, 24, .inl (V 7))), (X 8, .inl (gI g, 24, .inl (V 8)))] := hD
  refine lv_aload_n hx hb dX3_tornBlocks_0 rfl (lv_at hl 0 rfl) ?_
  refine lv_iconst (v := 0) hx hb dX3_tornBlocks_1 (by decide +kernel) ?_
  refine va_put (D := gD g) (ci := 3) (v := .int (0)) (ty := .int) (C := RX3) (T := TX3) (N := 12) hx hb hts iX3 tyX3 tyX3_ok nmX3 hown hK.1 hP hD hS 0 rfl rfl 0 (by decide) f37 (fun _ h9 => h9) rfl (by decide +kernel) rfl rfl (Nat.le_of_ble_eq_true rfl) dX3_tornBlocks_2 (fun H locs hP hD hS => ?_)
  have hP : va_P (gD g) vwCl [(h, .inr (3, [.int (0), .int (nI lc), .ref (X 0), .ref (X 1), .int (nI ec), .ref (X 2), .ref (X 3), .ref (X 4), .ref (X 5), .ref (X 6), .ref (X 7), .ref (X 8)])), (X 0, .inl (gI g, 12, .inl (V 0))), (X 1, .inl (gI g, 480, .inl (V 1))), (X 2, .inl (gI g, 24, .inl (V 2))), (X 3, .inl (gI g, 24, .inl (V 3))), (X 4, .inl (gI g, 24, .inl (V 4))), (X 5, .inl (gI g, 192, .inl (V 5))), (X 6, .inl (gI g, 24, .inl (V 6))), (X 7, .inl (gI g, 24, .inl (V 7))), (X 8, .inl (gI g, 24, .inl (V 8)))] H := hP
  have hD : va_D A [(h, .inr (3, [.int (0), .int (nI lc), .ref (X 0), .ref (X 1), .int (nI ec), .ref (X 2), .ref (X 3), .ref (X 4), .ref (X 5), .ref (X 6), .ref (X 7), .ref (X 8)])), (X 0, .inl (gI g, 12, .inl (V 0))), (X 1, .inl (gI g, 480, .inl (V 1))), (X 2, .inl (gI g, 24, .inl (V 2))), (X 3, .inl (gI g, 24, .inl (V 3))), (X 4, .inl (gI g, 24, .inl (V 4))), (X 5, .inl (gI g, 192, .inl (V 5))), (X 6, .inl (gI g, 24, .inl (V 6))), (X 7, .inl (gI g, 24, .inl (V 7))), (X 8, .inl (gI g, 24, .inl (V 8)))] := hD
  refine lv_aload_n hx hb dX3_tornBlocks_5 rfl (lv_at hl 0 rfl) ?_
  refine lv_iload_n hx hb dX3_tornBlocks_6 rfl (lv_at hl 1 rfl) ?_
  refine p_V (As := [.int (x)]) (rest := []) S (c_X3_isEnvelope l g h X V 0 lc ec (x) hlc hec) (cwV 1 hts gX3_tornBlocks_X3_isEnvelope rfl rfl rfl (by decide +kernel) ⟨Nat.le_of_ble_eq_true rfl, Nat.le_of_ble_eq_true rfl⟩) hK (va_recv hK.1 hP (ci := 3) (q0 := 0) rfl rfl) (hP) rfl hl.1 rfl (Nat.le_of_ble_eq_true rfl) dX3_tornBlocks_7 ⟨Nat.le_of_ble_eq_true rfl, Nat.le_of_ble_eq_true rfl⟩ ?_
  refine br_eqB (tgt := 22) hx hb dX3_tornBlocks_10 (by decide) (fun c10 => ?_) (fun c10 => ?_)
  · refine lv_aload_n hx hb dX3_tornBlocks_22 rfl (lv_at hl 0 rfl) ?_
    refine lv_iconst (v := 1) hx hb dX3_tornBlocks_23 (by decide +kernel) ?_
    refine w_V (As := [.int (1)]) (rest := []) S (c_X3_no l g h X V 0 lc ec (1)) (cwV 1 hts gX3_tornBlocks_X3_no rfl rfl rfl (by decide +kernel) ⟨Nat.le_of_ble_eq_true rfl, Nat.le_of_ble_eq_true rfl⟩) hK (va_recv hK.1 hP (ci := 3) (q0 := 0) rfl rfl) hP (hD.weaken (fun _ _ _ _ => trivial)) hS (wA_D hD [0, 1, 2, 3, 4, 5, 6, 7, 8, 9] rfl) rfl hl.1 rfl (Nat.le_of_ble_eq_true rfl) dX3_tornBlocks_24 ⟨Nat.le_of_ble_eq_true rfl, Nat.le_of_ble_eq_true rfl⟩ (fun H locs hP1 hz1 hk1 hS => ?_)
    have hP : va_P (gD g) vwCl [(h, .inr (3, [.int (1), .int (nI lc), .ref (X 0), .ref (X 1), .int (nI ec), .ref (X 2), .ref (X 3), .ref (X 4), .ref (X 5), .ref (X 6), .ref (X 7), .ref (X 8)])), (X 0, .inl (gI g, 12, .inl (V 0))), (X 1, .inl (gI g, 480, .inl (V 1))), (X 2, .inl (gI g, 24, .inl (V 2))), (X 3, .inl (gI g, 24, .inl (V 3))), (X 4, .inl (gI g, 24, .inl (V 4))), (X 5, .inl (gI g, 192, .inl (V 5))), (X 6, .inl (gI g, 24, .inl (V 6))), (X 7, .inl (gI g, 24, .inl (V 7))), (X 8, .inl (gI g, 24, .inl (V 8)))] H := hP1
    have hD : va_D A [(h, .inr (3, [.int (1), .int (nI lc), .ref (X 0), .ref (X 1), .int (nI ec), .ref (X 2), .ref (X 3), .ref (X 4), .ref (X 5), .ref (X 6), .ref (X 7), .ref (X 8)])), (X 0, .inl (gI g, 12, .inl (V 0))), (X 1, .inl (gI g, 480, .inl (V 1))), (X 2, .inl (gI g, 24, .inl (V 2))), (X 3, .inl (gI g, 24, .inl (V 3))), (X 4, .inl (gI g, 24, .inl (V 4))), (X 5, .inl (gI g, 192, .inl (V 5))), (X 6, .inl (gI g, 24, .inl (V 6))), (X 7, .inl (gI g, 24, .inl (V 7))), (X 8, .inl (gI g, 24, .inl (V 8)))] := D_same hD rfl
    exact hret _ _ _ _ hP hS dX3_tornBlocks_27
  · exact absurd c10 (by rw [hxb]; decide)

set_option maxHeartbeats 4000000 in
set_option maxRecDepth 100000 in
/-- firstTorn -/
theorem c_X3_firstTorn (l : Launch) (g : gT) (h : Nat) (X : Nat → Nat) (V : Nat → Nat → Int32) (th : Int32) (lc ec : Nat) (NN : Nat → Nat) (hlc : lc ≤ 12) (hec : ec ≤ 24) (hNN : ∀ i, i < lc → V 0 i = nI (NN i) ∧ NN i ≤ 40) (LN SC : Nat → Nat) (hEN : ∀ q, q < ec → V 2 q = nI (LN q) ∧ LN q < lc ∧ V 4 q = nI (SC q) ∧ SC q ≤ 40) (q : Nat) (hq : q < ec) : wM g l yX3_firstTorn wsX3_firstTorn { frames := 4, cells := 0, slots := 0, locals := 94 } [.ref (h), .int (nI q)] (mdW g h X V th lc ec) (some (.int (fsF (toP V NN LN SC q) 8 0))) (mdW g h X V 0 lc ec) := by
  refine wr_ofI (cc := cX3_firstTorn) (maxL := 2) (by decide) rfl (Nat.le_of_ble_eq_true rfl) ?_
  intro p e s m args below meth c H0 ls A Q hx hb hml hts hown hK hP hD hS hl hret
  have hl : lv_has ls 2 [(0, .ref (h)), (1, .int (nI q))] := hl
  have S : CallFix p m c cX3_firstTorn 2 s args wsX3_firstTorn RX3 := ⟨hx, hb, hml, hown, hts⟩
  have hgq : inB (nI q) ec = true := inB_nI hq (by omega)
  have hLN := (hEN q hq).1
  have hLl := (hEN q hq).2.1
  have hSC := (hEN q hq).2.2.1
  have hSl := (hEN q hq).2.2.2
  have hVn := (hNN _ hLl).1
  have hn := (hNN _ hLl).2
  have iX3 : ∀ w ∈ u_ws RX3 TX3 12, w ∈ wsX3_firstTorn := by decide +kernel
  have f37 := hts (.fieldLink RX3 37 "LetterSealsModel" "thrown" "I") (by decide +kernel)
  obtain ⟨H, eH⟩ : ∃ H : Heap, H = H0 := ⟨_, rfl⟩
  rw [← eH] at hP ⊢
  have hS : va_S A H0 H [] := by rw [eH]; exact hS
  have hP : va_P (gD g) vwCl [(h, .inr (3, [.int (th), .int (nI lc), .ref (X 0), .ref (X 1), .int (nI ec), .ref (X 2), .ref (X 3), .ref (X 4), .ref (X 5), .ref (X 6), .ref (X 7), .ref (X 8)])), (X 0, .inl (gI g, 12, .inl (V 0))), (X 1, .inl (gI g, 480, .inl (V 1))), (X 2, .inl (gI g, 24, .inl (V 2))), (X 3, .inl (gI g, 24, .inl (V 3))), (X 4, .inl (gI g, 24, .inl (V 4))), (X 5, .inl (gI g, 192, .inl (V 5))), (X 6, .inl (gI g, 24, .inl (V 6))), (X 7, .inl (gI g, 24, .inl (V 7))), (X 8, .inl (gI g, 24, .inl (V 8)))] H := hP
  have hD : va_D A [(h, .inr (3, [.int (th), .int (nI lc), .ref (X 0), .ref (X 1), .int (nI ec), .ref (X 2), .ref (X 3), .ref (X 4), .ref (X 5), .ref (X 6), .ref (X 7), .ref (X 8)])), (X 0, .inl (gI g, 12, .inl (V 0))), (X 1, .inl (gI g, 480, .inl (V 1))), (X 2, .inl (gI g, 24, .inl (V 2))), (X 3, .inl (gI g, 24, .inl (V 3))), (X 4, .inl (gI g, 24, .inl (V 4))), (X 5, .inl (gI g, 192, .inl (V 5))), (X 6, .inl (gI g, 24, .inl (V 6))), (X 7, .inl (gI g, 24, .inl (V 7))), (X 8, .inl (gI g, 24, .inl (V 8)))] := hD
  refine lv_aload_n hx hb dX3_firstTorn_0 rfl (lv_at hl 0 rfl) ?_
  refine lv_iconst (v := 0) hx hb dX3_firstTorn_1 (by decide +kernel) ?_
  refine va_put (D := gD g) (ci := 3) (v := .int (0)) (ty := .int) (C := RX3) (T := TX3) (N := 12) hx hb hts iX3 tyX3 tyX3_ok nmX3 hown hK.1 hP hD hS 0 rfl rfl 0 (by decide) f37 (fun _ h9 => h9) rfl (by decide +kernel) rfl rfl (Nat.le_of_ble_eq_true rfl) dX3_firstTorn_2 (fun H locs hP hD hS => ?_)
  have hP : va_P (gD g) vwCl [(h, .inr (3, [.int (0), .int (nI lc), .ref (X 0), .ref (X 1), .int (nI ec), .ref (X 2), .ref (X 3), .ref (X 4), .ref (X 5), .ref (X 6), .ref (X 7), .ref (X 8)])), (X 0, .inl (gI g, 12, .inl (V 0))), (X 1, .inl (gI g, 480, .inl (V 1))), (X 2, .inl (gI g, 24, .inl (V 2))), (X 3, .inl (gI g, 24, .inl (V 3))), (X 4, .inl (gI g, 24, .inl (V 4))), (X 5, .inl (gI g, 192, .inl (V 5))), (X 6, .inl (gI g, 24, .inl (V 6))), (X 7, .inl (gI g, 24, .inl (V 7))), (X 8, .inl (gI g, 24, .inl (V 8)))] H := hP
  have hD : va_D A [(h, .inr (3, [.int (0), .int (nI lc), .ref (X 0), .ref (X 1), .int (nI ec), .ref (X 2), .ref (X 3), .ref (X 4), .ref (X 5), .ref (X 6), .ref (X 7), .ref (X 8)])), (X 0, .inl (gI g, 12, .inl (V 0))), (X 1, .inl (gI g, 480, .inl (V 1))), (X 2, .inl (gI g, 24, .inl (V 2))), (X 3, .inl (gI g, 24, .inl (V 3))), (X 4, .inl (gI g, 24, .inl (V 4))), (X 5, .inl (gI g, 192, .inl (V 5))), (X 6, .inl (gI g, 24, .inl (V 6))), (X 7, .inl (gI g, 24, .inl (V 7))), (X 8, .inl (gI g, 24, .inl (V 8)))] := hD
  refine lv_aload_n hx hb dX3_firstTorn_5 rfl (lv_at hl 0 rfl) ?_
  refine lv_iload_n hx hb dX3_firstTorn_6 rfl (lv_at hl 1 rfl) ?_
  refine p_V (As := [.int (nI q)]) (rest := []) S (c_X3_isEnvelope l g h X V 0 lc ec (nI q) hlc hec) (cwV 1 hts gX3_firstTorn_X3_isEnvelope rfl rfl rfl (by decide +kernel) ⟨Nat.le_of_ble_eq_true rfl, Nat.le_of_ble_eq_true rfl⟩) hK (va_recv hK.1 hP (ci := 3) (q0 := 0) rfl rfl) (hP) rfl hl.1 rfl (Nat.le_of_ble_eq_true rfl) dX3_firstTorn_7 ⟨Nat.le_of_ble_eq_true rfl, Nat.le_of_ble_eq_true rfl⟩ ?_
  refine br_eqB (tgt := 22) hx hb dX3_firstTorn_10 (by decide) (fun c10 => ?_) (fun c10 => ?_)
  · exact absurd c10 (by rw [hgq]; decide)
  · refine lv_aload_n hx hb dX3_firstTorn_13 rfl (lv_at hl 0 rfl) ?_
    refine lv_iload_n hx hb dX3_firstTorn_14 rfl (lv_at hl 1 rfl) ?_
    refine lv_iconst (v := 1) hx hb dX3_firstTorn_15 (by decide +kernel) ?_
    refine p_V (As := [.int (nI q), .int (1)]) (rest := []) S (c_X3_torn1 l g h X V 0 lc ec NN hlc hec hNN LN SC hEN q hq) (cwV 2 hts gX3_firstTorn_X3_torn rfl rfl rfl (by decide +kernel) ⟨Nat.le_of_ble_eq_true rfl, Nat.le_of_ble_eq_true rfl⟩) hK (va_recv hK.1 hP (ci := 3) (q0 := 0) rfl rfl) (hP) rfl hl.1 rfl (Nat.le_of_ble_eq_true rfl) dX3_firstTorn_16 ⟨Nat.le_of_ble_eq_true rfl, Nat.le_of_ble_eq_true rfl⟩ ?_
    refine lv_goto (tgt := 27) hx hb dX3_firstTorn_19 (by decide) ?_
    exact hret _ _ _ _ hP hS dX3_firstTorn_27

set_option maxHeartbeats 4000000 in
set_option maxRecDepth 100000 in
/-- firstTorn_1 -/
theorem c_X3_firstTorn_1 (l : Launch) (g : gT) (h : Nat) (X : Nat → Nat) (V : Nat → Nat → Int32) (th : Int32) (lc ec : Nat) (hlc : lc ≤ 12) (hec : ec ≤ 24) (x : Int32) (hxb : inB x ec = false) : wM g l yX3_firstTorn wsX3_firstTorn { frames := 4, cells := 0, slots := 0, locals := 94 } [.ref (h), .int (x)] (mdW g h X V th lc ec) (some (.int (0))) (mdW g h X V 1 lc ec) := by
  refine wr_ofI (cc := cX3_firstTorn) (maxL := 2) (by decide) rfl (Nat.le_of_ble_eq_true rfl) ?_
  intro p e s m args below meth c H0 ls A Q hx hb hml hts hown hK hP hD hS hl hret
  have hl : lv_has ls 2 [(0, .ref (h)), (1, .int (x))] := hl
  have S : CallFix p m c cX3_firstTorn 2 s args wsX3_firstTorn RX3 := ⟨hx, hb, hml, hown, hts⟩
  have iX3 : ∀ w ∈ u_ws RX3 TX3 12, w ∈ wsX3_firstTorn := by decide +kernel
  have f37 := hts (.fieldLink RX3 37 "LetterSealsModel" "thrown" "I") (by decide +kernel)
  obtain ⟨H, eH⟩ : ∃ H : Heap, H = H0 := ⟨_, rfl⟩
  rw [← eH] at hP ⊢
  have hS : va_S A H0 H [] := by rw [eH]; exact hS
  have hP : va_P (gD g) vwCl [(h, .inr (3, [.int (th), .int (nI lc), .ref (X 0), .ref (X 1), .int (nI ec), .ref (X 2), .ref (X 3), .ref (X 4), .ref (X 5), .ref (X 6), .ref (X 7), .ref (X 8)])), (X 0, .inl (gI g, 12, .inl (V 0))), (X 1, .inl (gI g, 480, .inl (V 1))), (X 2, .inl (gI g, 24, .inl (V 2))), (X 3, .inl (gI g, 24, .inl (V 3))), (X 4, .inl (gI g, 24, .inl (V 4))), (X 5, .inl (gI g, 192, .inl (V 5))), (X 6, .inl (gI g, 24, .inl (V 6))), (X 7, .inl (gI g, 24, .inl (V 7))), (X 8, .inl (gI g, 24, .inl (V 8)))] H := hP
  have hD : va_D A [(h, .inr (3, [.int (th), .int (nI lc), .ref (X 0), .ref (X 1), .int (nI ec), .ref (X 2), .ref (X 3), .ref (X 4), .ref (X 5), .ref (X 6), .ref (X 7), .ref (X 8)])), (X 0, .inl (gI g, 12, .inl (V 0))), (X 1, .inl (gI g, 480, .inl (V 1))), (X 2, .inl (gI g, 24, .inl (V 2))), (X 3, .inl (gI g, 24, .inl (V 3))), (X 4, .inl (gI g, 24, .inl (V 4))), (X 5, .inl (gI g, 192, .inl (V 5))), (X 6, .inl (gI g, 24, .inl (V 6))), (X 7, .inl (gI g, 24, .inl (V 7))), (X 8, .inl (gI g, 24, .inl (V 8)))] := hD
  refine lv_aload_n hx hb dX3_firstTorn_0 rfl (lv_at hl 0 rfl) ?_
  refine lv_iconst (v := 0) hx hb dX3_firstTorn_1 (by decide +kernel) ?_
  refine va_put (D := gD g) (ci := 3) (v := .int (0)) (ty := .int) (C := RX3) (T := TX3) (N := 12) hx hb hts iX3 tyX3 tyX3_ok nmX3 hown hK.1 hP hD hS 0 rfl rfl 0 (by decide) f37 (fun _ h9 => h9) rfl (by decide +kernel) rfl rfl (Nat.le_of_ble_eq_true rfl) dX3_firstTorn_2 (fun H locs hP hD hS => ?_)
  have hP : va_P (gD g) vwCl [(h, .inr (3, [.int (0), .int (nI lc), .ref (X 0), .ref (X 1), .int (nI ec), .ref (X 2), .ref (X 3), .ref (X 4), .ref (X 5), .ref (X 6), .ref (X 7), .ref (X 8)])), (X 0, .inl (gI g, 12, .inl (V 0))), (X 1, .inl (gI g, 480, .inl (V 1))), (X 2, .inl (gI g, 24, .inl (V 2))), (X 3, .inl (gI g, 24, .inl (V 3))), (X 4, .inl (gI g, 24, .inl (V 4))), (X 5, .inl (gI g, 192, .inl (V 5))), (X 6, .inl (gI g, 24, .inl (V 6))), (X 7, .inl (gI g, 24, .inl (V 7))), (X 8, .inl (gI g, 24, .inl (V 8)))] H := hP
  have hD : va_D A [(h, .inr (3, [.int (0), .int (nI lc), .ref (X 0), .ref (X 1), .int (nI ec), .ref (X 2), .ref (X 3), .ref (X 4), .ref (X 5), .ref (X 6), .ref (X 7), .ref (X 8)])), (X 0, .inl (gI g, 12, .inl (V 0))), (X 1, .inl (gI g, 480, .inl (V 1))), (X 2, .inl (gI g, 24, .inl (V 2))), (X 3, .inl (gI g, 24, .inl (V 3))), (X 4, .inl (gI g, 24, .inl (V 4))), (X 5, .inl (gI g, 192, .inl (V 5))), (X 6, .inl (gI g, 24, .inl (V 6))), (X 7, .inl (gI g, 24, .inl (V 7))), (X 8, .inl (gI g, 24, .inl (V 8)))] := hD
  refine lv_aload_n hx hb dX3_firstTorn_5 rfl (lv_at hl 0 rfl) ?_
  refine lv_iload_n hx hb dX3_firstTorn_6 rfl (lv_at hl 1 rfl) ?_
  refine p_V (As := [.int (x)]) (rest := []) S (c_X3_isEnvelope l g h X V 0 lc ec (x) hlc hec) (cwV 1 hts gX3_firstTorn_X3_isEnvelope rfl rfl rfl (by decide +kernel) ⟨Nat.le_of_ble_eq_true rfl, Nat.le_of_ble_eq_true rfl⟩) hK (va_recv hK.1 hP (ci := 3) (q0 := 0) rfl rfl) (hP) rfl hl.1 rfl (Nat.le_of_ble_eq_true rfl) dX3_firstTorn_7 ⟨Nat.le_of_ble_eq_true rfl, Nat.le_of_ble_eq_true rfl⟩ ?_
  refine br_eqB (tgt := 22) hx hb dX3_firstTorn_10 (by decide) (fun c10 => ?_) (fun c10 => ?_)
  · refine lv_aload_n hx hb dX3_firstTorn_22 rfl (lv_at hl 0 rfl) ?_
    refine lv_iconst (v := 1) hx hb dX3_firstTorn_23 (by decide +kernel) ?_
    refine w_V (As := [.int (1)]) (rest := []) S (c_X3_no l g h X V 0 lc ec (1)) (cwV 1 hts gX3_firstTorn_X3_no rfl rfl rfl (by decide +kernel) ⟨Nat.le_of_ble_eq_true rfl, Nat.le_of_ble_eq_true rfl⟩) hK (va_recv hK.1 hP (ci := 3) (q0 := 0) rfl rfl) hP (hD.weaken (fun _ _ _ _ => trivial)) hS (wA_D hD [0, 1, 2, 3, 4, 5, 6, 7, 8, 9] rfl) rfl hl.1 rfl (Nat.le_of_ble_eq_true rfl) dX3_firstTorn_24 ⟨Nat.le_of_ble_eq_true rfl, Nat.le_of_ble_eq_true rfl⟩ (fun H locs hP1 hz1 hk1 hS => ?_)
    have hP : va_P (gD g) vwCl [(h, .inr (3, [.int (1), .int (nI lc), .ref (X 0), .ref (X 1), .int (nI ec), .ref (X 2), .ref (X 3), .ref (X 4), .ref (X 5), .ref (X 6), .ref (X 7), .ref (X 8)])), (X 0, .inl (gI g, 12, .inl (V 0))), (X 1, .inl (gI g, 480, .inl (V 1))), (X 2, .inl (gI g, 24, .inl (V 2))), (X 3, .inl (gI g, 24, .inl (V 3))), (X 4, .inl (gI g, 24, .inl (V 4))), (X 5, .inl (gI g, 192, .inl (V 5))), (X 6, .inl (gI g, 24, .inl (V 6))), (X 7, .inl (gI g, 24, .inl (V 7))), (X 8, .inl (gI g, 24, .inl (V 8)))] H := hP1
    have hD : va_D A [(h, .inr (3, [.int (1), .int (nI lc), .ref (X 0), .ref (X 1), .int (nI ec), .ref (X 2), .ref (X 3), .ref (X 4), .ref (X 5), .ref (X 6), .ref (X 7), .ref (X 8)])), (X 0, .inl (gI g, 12, .inl (V 0))), (X 1, .inl (gI g, 480, .inl (V 1))), (X 2, .inl (gI g, 24, .inl (V 2))), (X 3, .inl (gI g, 24, .inl (V 3))), (X 4, .inl (gI g, 24, .inl (V 4))), (X 5, .inl (gI g, 192, .inl (V 5))), (X 6, .inl (gI g, 24, .inl (V 6))), (X 7, .inl (gI g, 24, .inl (V 7))), (X 8, .inl (gI g, 24, .inl (V 8)))] := D_same hD rfl
    exact hret _ _ _ _ hP hS dX3_firstTorn_27
  · exact absurd c10 (by rw [hxb]; decide)

set_option maxHeartbeats 4000000 in
set_option maxRecDepth 100000 in
/-- changedPlace -/
theorem c_X3_changedPlace (l : Launch) (g : gT) (h : Nat) (X : Nat → Nat) (V : Nat → Nat → Int32) (th : Int32) (lc ec : Nat) (NN : Nat → Nat) (hlc : lc ≤ 12) (hec : ec ≤ 24) (hNN : ∀ i, i < lc → V 0 i = nI (NN i) ∧ NN i ≤ 40) (LN SC : Nat → Nat) (hEN : ∀ q, q < ec → V 2 q = nI (LN q) ∧ LN q < lc ∧ V 4 q = nI (SC q) ∧ SC q ≤ 40) (q : Nat) (hq : q < ec) : wM g l yX3_changedPlace wsX3_changedPlace { frames := 5, cells := 0, slots := 0, locals := 114 } [.ref (h), .int (nI q)] (mdW g h X V th lc ec) (some (.int (chM (asP V NN LN q) (SC q) (NN (LN q)) (V 6 q - smF (rwV V (LN q)) (NN (LN q))) (V 7 q - wtF (rwV V (LN q)) (NN (LN q))) (rwV V (LN q))))) (mdW g h X V 0 lc ec) := by
  refine wr_ofI (cc := cX3_changedPlace) (maxL := 2) (by decide) rfl (Nat.le_of_ble_eq_true rfl) ?_
  intro p e s m args below meth c H0 ls A Q hx hb hml hts hown hK hP hD hS hl hret
  have hl : lv_has ls 2 [(0, .ref (h)), (1, .int (nI q))] := hl
  have S : CallFix p m c cX3_changedPlace 2 s args wsX3_changedPlace RX3 := ⟨hx, hb, hml, hown, hts⟩
  have hgq : inB (nI q) ec = true := inB_nI hq (by omega)
  have hLN := (hEN q hq).1
  have hLl := (hEN q hq).2.1
  have hSC := (hEN q hq).2.2.1
  have hSl := (hEN q hq).2.2.2
  have hVn := (hNN _ hLl).1
  have hn := (hNN _ hLl).2
  have iX3 : ∀ w ∈ u_ws RX3 TX3 12, w ∈ wsX3_changedPlace := by decide +kernel
  have f37 := hts (.fieldLink RX3 37 "LetterSealsModel" "thrown" "I") (by decide +kernel)
  obtain ⟨H, eH⟩ : ∃ H : Heap, H = H0 := ⟨_, rfl⟩
  rw [← eH] at hP ⊢
  have hS : va_S A H0 H [] := by rw [eH]; exact hS
  have hP : va_P (gD g) vwCl [(h, .inr (3, [.int (th), .int (nI lc), .ref (X 0), .ref (X 1), .int (nI ec), .ref (X 2), .ref (X 3), .ref (X 4), .ref (X 5), .ref (X 6), .ref (X 7), .ref (X 8)])), (X 0, .inl (gI g, 12, .inl (V 0))), (X 1, .inl (gI g, 480, .inl (V 1))), (X 2, .inl (gI g, 24, .inl (V 2))), (X 3, .inl (gI g, 24, .inl (V 3))), (X 4, .inl (gI g, 24, .inl (V 4))), (X 5, .inl (gI g, 192, .inl (V 5))), (X 6, .inl (gI g, 24, .inl (V 6))), (X 7, .inl (gI g, 24, .inl (V 7))), (X 8, .inl (gI g, 24, .inl (V 8)))] H := hP
  have hD : va_D A [(h, .inr (3, [.int (th), .int (nI lc), .ref (X 0), .ref (X 1), .int (nI ec), .ref (X 2), .ref (X 3), .ref (X 4), .ref (X 5), .ref (X 6), .ref (X 7), .ref (X 8)])), (X 0, .inl (gI g, 12, .inl (V 0))), (X 1, .inl (gI g, 480, .inl (V 1))), (X 2, .inl (gI g, 24, .inl (V 2))), (X 3, .inl (gI g, 24, .inl (V 3))), (X 4, .inl (gI g, 24, .inl (V 4))), (X 5, .inl (gI g, 192, .inl (V 5))), (X 6, .inl (gI g, 24, .inl (V 6))), (X 7, .inl (gI g, 24, .inl (V 7))), (X 8, .inl (gI g, 24, .inl (V 8)))] := hD
  refine lv_aload_n hx hb dX3_changedPlace_0 rfl (lv_at hl 0 rfl) ?_
  refine lv_iconst (v := 0) hx hb dX3_changedPlace_1 (by decide +kernel) ?_
  refine va_put (D := gD g) (ci := 3) (v := .int (0)) (ty := .int) (C := RX3) (T := TX3) (N := 12) hx hb hts iX3 tyX3 tyX3_ok nmX3 hown hK.1 hP hD hS 0 rfl rfl 0 (by decide) f37 (fun _ h9 => h9) rfl (by decide +kernel) rfl rfl (Nat.le_of_ble_eq_true rfl) dX3_changedPlace_2 (fun H locs hP hD hS => ?_)
  have hP : va_P (gD g) vwCl [(h, .inr (3, [.int (0), .int (nI lc), .ref (X 0), .ref (X 1), .int (nI ec), .ref (X 2), .ref (X 3), .ref (X 4), .ref (X 5), .ref (X 6), .ref (X 7), .ref (X 8)])), (X 0, .inl (gI g, 12, .inl (V 0))), (X 1, .inl (gI g, 480, .inl (V 1))), (X 2, .inl (gI g, 24, .inl (V 2))), (X 3, .inl (gI g, 24, .inl (V 3))), (X 4, .inl (gI g, 24, .inl (V 4))), (X 5, .inl (gI g, 192, .inl (V 5))), (X 6, .inl (gI g, 24, .inl (V 6))), (X 7, .inl (gI g, 24, .inl (V 7))), (X 8, .inl (gI g, 24, .inl (V 8)))] H := hP
  have hD : va_D A [(h, .inr (3, [.int (0), .int (nI lc), .ref (X 0), .ref (X 1), .int (nI ec), .ref (X 2), .ref (X 3), .ref (X 4), .ref (X 5), .ref (X 6), .ref (X 7), .ref (X 8)])), (X 0, .inl (gI g, 12, .inl (V 0))), (X 1, .inl (gI g, 480, .inl (V 1))), (X 2, .inl (gI g, 24, .inl (V 2))), (X 3, .inl (gI g, 24, .inl (V 3))), (X 4, .inl (gI g, 24, .inl (V 4))), (X 5, .inl (gI g, 192, .inl (V 5))), (X 6, .inl (gI g, 24, .inl (V 6))), (X 7, .inl (gI g, 24, .inl (V 7))), (X 8, .inl (gI g, 24, .inl (V 8)))] := hD
  refine lv_aload_n hx hb dX3_changedPlace_5 rfl (lv_at hl 0 rfl) ?_
  refine lv_iload_n hx hb dX3_changedPlace_6 rfl (lv_at hl 1 rfl) ?_
  refine p_V (As := [.int (nI q)]) (rest := []) S (c_X3_isEnvelope l g h X V 0 lc ec (nI q) hlc hec) (cwV 1 hts gX3_changedPlace_X3_isEnvelope rfl rfl rfl (by decide +kernel) ⟨Nat.le_of_ble_eq_true rfl, Nat.le_of_ble_eq_true rfl⟩) hK (va_recv hK.1 hP (ci := 3) (q0 := 0) rfl rfl) (hP) rfl hl.1 rfl (Nat.le_of_ble_eq_true rfl) dX3_changedPlace_7 ⟨Nat.le_of_ble_eq_true rfl, Nat.le_of_ble_eq_true rfl⟩ ?_
  refine br_eqB (tgt := 21) hx hb dX3_changedPlace_10 (by decide) (fun c10 => ?_) (fun c10 => ?_)
  · exact absurd c10 (by rw [hgq]; decide)
  · refine lv_aload_n hx hb dX3_changedPlace_13 rfl (lv_at hl 0 rfl) ?_
    refine lv_iload_n hx hb dX3_changedPlace_14 rfl (lv_at hl 1 rfl) ?_
    refine p_V (As := [.int (nI q)]) (rest := []) S (c_X3_changedAt l g h X V 0 lc ec NN hlc hec hNN LN SC hEN q hq) (cwV 1 hts gX3_changedPlace_X3_changedAt rfl rfl rfl (by decide +kernel) ⟨Nat.le_of_ble_eq_true rfl, Nat.le_of_ble_eq_true rfl⟩) hK (va_recv hK.1 hP (ci := 3) (q0 := 0) rfl rfl) (hP) rfl hl.1 rfl (Nat.le_of_ble_eq_true rfl) dX3_changedPlace_15 ⟨Nat.le_of_ble_eq_true rfl, Nat.le_of_ble_eq_true rfl⟩ ?_
    refine lv_goto (tgt := 26) hx hb dX3_changedPlace_18 (by decide) ?_
    exact hret _ _ _ _ hP hS dX3_changedPlace_26

set_option maxHeartbeats 4000000 in
set_option maxRecDepth 100000 in
/-- changedPlace_1 -/
theorem c_X3_changedPlace_1 (l : Launch) (g : gT) (h : Nat) (X : Nat → Nat) (V : Nat → Nat → Int32) (th : Int32) (lc ec : Nat) (hlc : lc ≤ 12) (hec : ec ≤ 24) (x : Int32) (hxb : inB x ec = false) : wM g l yX3_changedPlace wsX3_changedPlace { frames := 5, cells := 0, slots := 0, locals := 114 } [.ref (h), .int (x)] (mdW g h X V th lc ec) (some (.int (0))) (mdW g h X V 1 lc ec) := by
  refine wr_ofI (cc := cX3_changedPlace) (maxL := 2) (by decide) rfl (Nat.le_of_ble_eq_true rfl) ?_
  intro p e s m args below meth c H0 ls A Q hx hb hml hts hown hK hP hD hS hl hret
  have hl : lv_has ls 2 [(0, .ref (h)), (1, .int (x))] := hl
  have S : CallFix p m c cX3_changedPlace 2 s args wsX3_changedPlace RX3 := ⟨hx, hb, hml, hown, hts⟩
  have iX3 : ∀ w ∈ u_ws RX3 TX3 12, w ∈ wsX3_changedPlace := by decide +kernel
  have f37 := hts (.fieldLink RX3 37 "LetterSealsModel" "thrown" "I") (by decide +kernel)
  obtain ⟨H, eH⟩ : ∃ H : Heap, H = H0 := ⟨_, rfl⟩
  rw [← eH] at hP ⊢
  have hS : va_S A H0 H [] := by rw [eH]; exact hS
  have hP : va_P (gD g) vwCl [(h, .inr (3, [.int (th), .int (nI lc), .ref (X 0), .ref (X 1), .int (nI ec), .ref (X 2), .ref (X 3), .ref (X 4), .ref (X 5), .ref (X 6), .ref (X 7), .ref (X 8)])), (X 0, .inl (gI g, 12, .inl (V 0))), (X 1, .inl (gI g, 480, .inl (V 1))), (X 2, .inl (gI g, 24, .inl (V 2))), (X 3, .inl (gI g, 24, .inl (V 3))), (X 4, .inl (gI g, 24, .inl (V 4))), (X 5, .inl (gI g, 192, .inl (V 5))), (X 6, .inl (gI g, 24, .inl (V 6))), (X 7, .inl (gI g, 24, .inl (V 7))), (X 8, .inl (gI g, 24, .inl (V 8)))] H := hP
  have hD : va_D A [(h, .inr (3, [.int (th), .int (nI lc), .ref (X 0), .ref (X 1), .int (nI ec), .ref (X 2), .ref (X 3), .ref (X 4), .ref (X 5), .ref (X 6), .ref (X 7), .ref (X 8)])), (X 0, .inl (gI g, 12, .inl (V 0))), (X 1, .inl (gI g, 480, .inl (V 1))), (X 2, .inl (gI g, 24, .inl (V 2))), (X 3, .inl (gI g, 24, .inl (V 3))), (X 4, .inl (gI g, 24, .inl (V 4))), (X 5, .inl (gI g, 192, .inl (V 5))), (X 6, .inl (gI g, 24, .inl (V 6))), (X 7, .inl (gI g, 24, .inl (V 7))), (X 8, .inl (gI g, 24, .inl (V 8)))] := hD
  refine lv_aload_n hx hb dX3_changedPlace_0 rfl (lv_at hl 0 rfl) ?_
  refine lv_iconst (v := 0) hx hb dX3_changedPlace_1 (by decide +kernel) ?_
  refine va_put (D := gD g) (ci := 3) (v := .int (0)) (ty := .int) (C := RX3) (T := TX3) (N := 12) hx hb hts iX3 tyX3 tyX3_ok nmX3 hown hK.1 hP hD hS 0 rfl rfl 0 (by decide) f37 (fun _ h9 => h9) rfl (by decide +kernel) rfl rfl (Nat.le_of_ble_eq_true rfl) dX3_changedPlace_2 (fun H locs hP hD hS => ?_)
  have hP : va_P (gD g) vwCl [(h, .inr (3, [.int (0), .int (nI lc), .ref (X 0), .ref (X 1), .int (nI ec), .ref (X 2), .ref (X 3), .ref (X 4), .ref (X 5), .ref (X 6), .ref (X 7), .ref (X 8)])), (X 0, .inl (gI g, 12, .inl (V 0))), (X 1, .inl (gI g, 480, .inl (V 1))), (X 2, .inl (gI g, 24, .inl (V 2))), (X 3, .inl (gI g, 24, .inl (V 3))), (X 4, .inl (gI g, 24, .inl (V 4))), (X 5, .inl (gI g, 192, .inl (V 5))), (X 6, .inl (gI g, 24, .inl (V 6))), (X 7, .inl (gI g, 24, .inl (V 7))), (X 8, .inl (gI g, 24, .inl (V 8)))] H := hP
  have hD : va_D A [(h, .inr (3, [.int (0), .int (nI lc), .ref (X 0), .ref (X 1), .int (nI ec), .ref (X 2), .ref (X 3), .ref (X 4), .ref (X 5), .ref (X 6), .ref (X 7), .ref (X 8)])), (X 0, .inl (gI g, 12, .inl (V 0))), (X 1, .inl (gI g, 480, .inl (V 1))), (X 2, .inl (gI g, 24, .inl (V 2))), (X 3, .inl (gI g, 24, .inl (V 3))), (X 4, .inl (gI g, 24, .inl (V 4))), (X 5, .inl (gI g, 192, .inl (V 5))), (X 6, .inl (gI g, 24, .inl (V 6))), (X 7, .inl (gI g, 24, .inl (V 7))), (X 8, .inl (gI g, 24, .inl (V 8)))] := hD
  refine lv_aload_n hx hb dX3_changedPlace_5 rfl (lv_at hl 0 rfl) ?_
  refine lv_iload_n hx hb dX3_changedPlace_6 rfl (lv_at hl 1 rfl) ?_
  refine p_V (As := [.int (x)]) (rest := []) S (c_X3_isEnvelope l g h X V 0 lc ec (x) hlc hec) (cwV 1 hts gX3_changedPlace_X3_isEnvelope rfl rfl rfl (by decide +kernel) ⟨Nat.le_of_ble_eq_true rfl, Nat.le_of_ble_eq_true rfl⟩) hK (va_recv hK.1 hP (ci := 3) (q0 := 0) rfl rfl) (hP) rfl hl.1 rfl (Nat.le_of_ble_eq_true rfl) dX3_changedPlace_7 ⟨Nat.le_of_ble_eq_true rfl, Nat.le_of_ble_eq_true rfl⟩ ?_
  refine br_eqB (tgt := 21) hx hb dX3_changedPlace_10 (by decide) (fun c10 => ?_) (fun c10 => ?_)
  · refine lv_aload_n hx hb dX3_changedPlace_21 rfl (lv_at hl 0 rfl) ?_
    refine lv_iconst (v := 1) hx hb dX3_changedPlace_22 (by decide +kernel) ?_
    refine w_V (As := [.int (1)]) (rest := []) S (c_X3_no l g h X V 0 lc ec (1)) (cwV 1 hts gX3_changedPlace_X3_no rfl rfl rfl (by decide +kernel) ⟨Nat.le_of_ble_eq_true rfl, Nat.le_of_ble_eq_true rfl⟩) hK (va_recv hK.1 hP (ci := 3) (q0 := 0) rfl rfl) hP (hD.weaken (fun _ _ _ _ => trivial)) hS (wA_D hD [0, 1, 2, 3, 4, 5, 6, 7, 8, 9] rfl) rfl hl.1 rfl (Nat.le_of_ble_eq_true rfl) dX3_changedPlace_23 ⟨Nat.le_of_ble_eq_true rfl, Nat.le_of_ble_eq_true rfl⟩ (fun H locs hP1 hz1 hk1 hS => ?_)
    have hP : va_P (gD g) vwCl [(h, .inr (3, [.int (1), .int (nI lc), .ref (X 0), .ref (X 1), .int (nI ec), .ref (X 2), .ref (X 3), .ref (X 4), .ref (X 5), .ref (X 6), .ref (X 7), .ref (X 8)])), (X 0, .inl (gI g, 12, .inl (V 0))), (X 1, .inl (gI g, 480, .inl (V 1))), (X 2, .inl (gI g, 24, .inl (V 2))), (X 3, .inl (gI g, 24, .inl (V 3))), (X 4, .inl (gI g, 24, .inl (V 4))), (X 5, .inl (gI g, 192, .inl (V 5))), (X 6, .inl (gI g, 24, .inl (V 6))), (X 7, .inl (gI g, 24, .inl (V 7))), (X 8, .inl (gI g, 24, .inl (V 8)))] H := hP1
    have hD : va_D A [(h, .inr (3, [.int (1), .int (nI lc), .ref (X 0), .ref (X 1), .int (nI ec), .ref (X 2), .ref (X 3), .ref (X 4), .ref (X 5), .ref (X 6), .ref (X 7), .ref (X 8)])), (X 0, .inl (gI g, 12, .inl (V 0))), (X 1, .inl (gI g, 480, .inl (V 1))), (X 2, .inl (gI g, 24, .inl (V 2))), (X 3, .inl (gI g, 24, .inl (V 3))), (X 4, .inl (gI g, 24, .inl (V 4))), (X 5, .inl (gI g, 192, .inl (V 5))), (X 6, .inl (gI g, 24, .inl (V 6))), (X 7, .inl (gI g, 24, .inl (V 7))), (X 8, .inl (gI g, 24, .inl (V 8)))] := D_same hD rfl
    exact hret _ _ _ _ hP hS dX3_changedPlace_26
  · exact absurd c10 (by rw [hxb]; decide)

set_option maxHeartbeats 4000000 in
set_option maxRecDepth 100000 in
/-- changedSign -/
theorem c_X3_changedSign (l : Launch) (g : gT) (h : Nat) (X : Nat → Nat) (V : Nat → Nat → Int32) (th : Int32) (lc ec : Nat) (NN : Nat → Nat) (hlc : lc ≤ 12) (hec : ec ≤ 24) (hNN : ∀ i, i < lc → V 0 i = nI (NN i) ∧ NN i ≤ 40) (LN SC : Nat → Nat) (hEN : ∀ q, q < ec → V 2 q = nI (LN q) ∧ LN q < lc ∧ V 4 q = nI (SC q) ∧ SC q ≤ 40) (q : Nat) (hq : q < ec) (j : Nat) (hj : j < NN (LN q)) (hc : chM (asP V NN LN q) (SC q) (NN (LN q)) (V 6 q - smF (rwV V (LN q)) (NN (LN q))) (V 7 q - wtF (rwV V (LN q)) (NN (LN q))) (rwV V (LN q)) = nI j) : wM g l yX3_changedSign wsX3_changedSign { frames := 5, cells := 0, slots := 0, locals := 114 } [.ref (h), .int (nI q)] (mdW g h X V th lc ec) (some (.int (V 1 (40 * LN q + j) + V 6 q - smF (rwV V (LN q)) (NN (LN q))))) (mdW g h X V 0 lc ec) := by
  refine wr_ofI (cc := cX3_changedSign) (maxL := 3) (by decide) rfl (Nat.le_of_ble_eq_true rfl) ?_
  intro p e s m args below meth c H0 ls A Q hx hb hml hts hown hK hP hD hS hl hret
  have hl : lv_has ls 3 [(0, .ref (h)), (1, .int (nI q))] := hl
  have S : CallFix p m c cX3_changedSign 3 s args wsX3_changedSign RX3 := ⟨hx, hb, hml, hown, hts⟩
  have hgq : inB (nI q) ec = true := inB_nI hq (by omega)
  have hLN := (hEN q hq).1
  have hLl := (hEN q hq).2.1
  have hSC := (hEN q hq).2.2.1
  have hSl := (hEN q hq).2.2.2
  have hVn := (hNN _ hLl).1
  have hn := (hNN _ hLl).2
  have iX3 : ∀ w ∈ u_ws RX3 TX3 12, w ∈ wsX3_changedSign := by decide +kernel
  have f16 := hts (.fieldLink RX3 16 "LetterSealsModel" "of" "[I") (by decide +kernel)
  have f28 := hts (.fieldLink RX3 28 "LetterSealsModel" "added" "[I") (by decide +kernel)
  have f37 := hts (.fieldLink RX3 37 "LetterSealsModel" "thrown" "I") (by decide +kernel)
  obtain ⟨H, eH⟩ : ∃ H : Heap, H = H0 := ⟨_, rfl⟩
  rw [← eH] at hP ⊢
  have hS : va_S A H0 H [] := by rw [eH]; exact hS
  have hP : va_P (gD g) vwCl [(h, .inr (3, [.int (th), .int (nI lc), .ref (X 0), .ref (X 1), .int (nI ec), .ref (X 2), .ref (X 3), .ref (X 4), .ref (X 5), .ref (X 6), .ref (X 7), .ref (X 8)])), (X 0, .inl (gI g, 12, .inl (V 0))), (X 1, .inl (gI g, 480, .inl (V 1))), (X 2, .inl (gI g, 24, .inl (V 2))), (X 3, .inl (gI g, 24, .inl (V 3))), (X 4, .inl (gI g, 24, .inl (V 4))), (X 5, .inl (gI g, 192, .inl (V 5))), (X 6, .inl (gI g, 24, .inl (V 6))), (X 7, .inl (gI g, 24, .inl (V 7))), (X 8, .inl (gI g, 24, .inl (V 8)))] H := hP
  have hD : va_D A [(h, .inr (3, [.int (th), .int (nI lc), .ref (X 0), .ref (X 1), .int (nI ec), .ref (X 2), .ref (X 3), .ref (X 4), .ref (X 5), .ref (X 6), .ref (X 7), .ref (X 8)])), (X 0, .inl (gI g, 12, .inl (V 0))), (X 1, .inl (gI g, 480, .inl (V 1))), (X 2, .inl (gI g, 24, .inl (V 2))), (X 3, .inl (gI g, 24, .inl (V 3))), (X 4, .inl (gI g, 24, .inl (V 4))), (X 5, .inl (gI g, 192, .inl (V 5))), (X 6, .inl (gI g, 24, .inl (V 6))), (X 7, .inl (gI g, 24, .inl (V 7))), (X 8, .inl (gI g, 24, .inl (V 8)))] := hD
  refine lv_aload_n hx hb dX3_changedSign_0 rfl (lv_at hl 0 rfl) ?_
  refine lv_iconst (v := 0) hx hb dX3_changedSign_1 (by decide +kernel) ?_
  refine va_put (D := gD g) (ci := 3) (v := .int (0)) (ty := .int) (C := RX3) (T := TX3) (N := 12) hx hb hts iX3 tyX3 tyX3_ok nmX3 hown hK.1 hP hD hS 0 rfl rfl 0 (by decide) f37 (fun _ h9 => h9) rfl (by decide +kernel) rfl rfl (Nat.le_of_ble_eq_true rfl) dX3_changedSign_2 (fun H locs hP hD hS => ?_)
  have hP : va_P (gD g) vwCl [(h, .inr (3, [.int (0), .int (nI lc), .ref (X 0), .ref (X 1), .int (nI ec), .ref (X 2), .ref (X 3), .ref (X 4), .ref (X 5), .ref (X 6), .ref (X 7), .ref (X 8)])), (X 0, .inl (gI g, 12, .inl (V 0))), (X 1, .inl (gI g, 480, .inl (V 1))), (X 2, .inl (gI g, 24, .inl (V 2))), (X 3, .inl (gI g, 24, .inl (V 3))), (X 4, .inl (gI g, 24, .inl (V 4))), (X 5, .inl (gI g, 192, .inl (V 5))), (X 6, .inl (gI g, 24, .inl (V 6))), (X 7, .inl (gI g, 24, .inl (V 7))), (X 8, .inl (gI g, 24, .inl (V 8)))] H := hP
  have hD : va_D A [(h, .inr (3, [.int (0), .int (nI lc), .ref (X 0), .ref (X 1), .int (nI ec), .ref (X 2), .ref (X 3), .ref (X 4), .ref (X 5), .ref (X 6), .ref (X 7), .ref (X 8)])), (X 0, .inl (gI g, 12, .inl (V 0))), (X 1, .inl (gI g, 480, .inl (V 1))), (X 2, .inl (gI g, 24, .inl (V 2))), (X 3, .inl (gI g, 24, .inl (V 3))), (X 4, .inl (gI g, 24, .inl (V 4))), (X 5, .inl (gI g, 192, .inl (V 5))), (X 6, .inl (gI g, 24, .inl (V 6))), (X 7, .inl (gI g, 24, .inl (V 7))), (X 8, .inl (gI g, 24, .inl (V 8)))] := hD
  refine lv_aload_n hx hb dX3_changedSign_5 rfl (lv_at hl 0 rfl) ?_
  refine lv_iload_n hx hb dX3_changedSign_6 rfl (lv_at hl 1 rfl) ?_
  refine p_V (As := [.int (nI q)]) (rest := []) S (c_X3_isEnvelope l g h X V 0 lc ec (nI q) hlc hec) (cwV 1 hts gX3_changedSign_X3_isEnvelope rfl rfl rfl (by decide +kernel) ⟨Nat.le_of_ble_eq_true rfl, Nat.le_of_ble_eq_true rfl⟩) hK (va_recv hK.1 hP (ci := 3) (q0 := 0) rfl rfl) (hP) rfl hl.1 rfl (Nat.le_of_ble_eq_true rfl) dX3_changedSign_7 ⟨Nat.le_of_ble_eq_true rfl, Nat.le_of_ble_eq_true rfl⟩ ?_
  refine br_neB (tgt := 19) hx hb dX3_changedSign_10 (by decide) (fun c10 => ?_) (fun c10 => ?_)
  · refine lv_aload_n hx hb dX3_changedSign_19 rfl (lv_at hl 0 rfl) ?_
    refine lv_iload_n hx hb dX3_changedSign_20 rfl (lv_at hl 1 rfl) ?_
    refine p_V (As := [.int (nI q)]) (rest := []) S (c_X3_changedAt l g h X V 0 lc ec NN hlc hec hNN LN SC hEN q hq) (cwV 1 hts gX3_changedSign_X3_changedAt rfl rfl rfl (by decide +kernel) ⟨Nat.le_of_ble_eq_true rfl, Nat.le_of_ble_eq_true rfl⟩) hK (va_recv hK.1 hP (ci := 3) (q0 := 0) rfl rfl) (hP) rfl hl.1 rfl (Nat.le_of_ble_eq_true rfl) dX3_changedSign_21 ⟨Nat.le_of_ble_eq_true rfl, Nat.le_of_ble_eq_true rfl⟩ ?_
    refine lv_toI (z := nI j) (hc) ?_
    refine lv_istore_n (lv' := [(2, .int (nI j)), (0, .ref (h)), (1, .int (nI q))]) hx hb dX3_changedSign_24 rfl hl (by decide) rfl (fun ls hl => ?_)
    refine lv_iload_n hx hb dX3_changedSign_25 rfl (lv_at hl 0 rfl) ?_
    refine lv_iconst (v := (-1)) hx hb dX3_changedSign_26 (by decide +kernel) ?_
    refine lv_icmp_ne (tgt := 38) hx hb dX3_changedSign_27 (by decide) (fun c27 => ?_) (fun c27 => ?_)
    · refine lv_aload_n hx hb dX3_changedSign_38 rfl (lv_at hl 1 rfl) ?_
      refine lv_aload_n hx hb dX3_changedSign_39 rfl (lv_at hl 1 rfl) ?_
      refine va_get (D := gD g) (ci := 3) (v := .ref (X 2)) (C := RX3) (T := TX3) (N := 12) hx hb hts iX3 hown hK.1 hP 0 rfl rfl 5 (by decide) f16 (fun _ h9 => h9) rfl dX3_changedSign_40 ?_
      refine lv_iload_n hx hb dX3_changedSign_43 rfl (lv_at hl 2 rfl) ?_
      refine ld_I (k := q) (n := 24) (f := V 2) hx hb hK.1 hP 3 rfl (by omega) (by omega) dX3_changedSign_44 ?_
      refine lv_toI (z := nI (LN q)) (hLN) ?_
      refine lv_iload_n hx hb dX3_changedSign_45 rfl (lv_at hl 0 rfl) ?_
      refine p_V (As := [.int (nI (LN q)), .int (nI j)]) (rest := []) S (c_X3_at l g h X V 0 lc ec (LN q) (j) (by omega) (by omega)) (cwV 2 hts gX3_changedSign_X3_at rfl rfl rfl (by decide +kernel) ⟨Nat.le_of_ble_eq_true rfl, Nat.le_of_ble_eq_true rfl⟩) hK (va_recv hK.1 hP (ci := 3) (q0 := 0) rfl rfl) (hP) rfl hl.1 rfl (Nat.le_of_ble_eq_true rfl) dX3_changedSign_46 ⟨Nat.le_of_ble_eq_true rfl, Nat.le_of_ble_eq_true rfl⟩ ?_
      refine lv_aload_n hx hb dX3_changedSign_49 rfl (lv_at hl 1 rfl) ?_
      refine va_get (D := gD g) (ci := 3) (v := .ref (X 6)) (C := RX3) (T := TX3) (N := 12) hx hb hts iX3 hown hK.1 hP 0 rfl rfl 9 (by decide) f28 (fun _ h9 => h9) rfl dX3_changedSign_50 ?_
      refine lv_iload_n hx hb dX3_changedSign_53 rfl (lv_at hl 2 rfl) ?_
      refine ld_I (k := q) (n := 24) (f := V 6) hx hb hK.1 hP 7 rfl (by omega) (by omega) dX3_changedSign_54 ?_
      refine lv_iadd hx hb dX3_changedSign_55 ?_
      refine lv_aload_n hx hb dX3_changedSign_56 rfl (lv_at hl 1 rfl) ?_
      refine lv_aload_n hx hb dX3_changedSign_57 rfl (lv_at hl 1 rfl) ?_
      refine va_get (D := gD g) (ci := 3) (v := .ref (X 2)) (C := RX3) (T := TX3) (N := 12) hx hb hts iX3 hown hK.1 hP 0 rfl rfl 5 (by decide) f16 (fun _ h9 => h9) rfl dX3_changedSign_58 ?_
      refine lv_iload_n hx hb dX3_changedSign_61 rfl (lv_at hl 2 rfl) ?_
      refine ld_I (k := q) (n := 24) (f := V 2) hx hb hK.1 hP 3 rfl (by omega) (by omega) dX3_changedSign_62 ?_
      refine lv_toI (z := nI (LN q)) (hLN) ?_
      refine lv_iconst (v := 0) hx hb dX3_changedSign_63 (by decide +kernel) ?_
      refine p_V (As := [.int (nI (LN q)), .int (0)]) (rest := [.int (((V 1) (40 * (LN q) + j)) + ((V 6) (q)))]) S (c_X3_sum0 l g h X V 0 lc ec NN hlc hec hNN (LN q) hLl) (cwV 2 hts gX3_changedSign_X3_sum rfl rfl rfl (by decide +kernel) ⟨Nat.le_of_ble_eq_true rfl, Nat.le_of_ble_eq_true rfl⟩) hK (va_recv hK.1 hP (ci := 3) (q0 := 0) rfl rfl) (hP) rfl hl.1 rfl (Nat.le_of_ble_eq_true rfl) dX3_changedSign_64 ⟨Nat.le_of_ble_eq_true rfl, Nat.le_of_ble_eq_true rfl⟩ ?_
      refine lv_isub hx hb dX3_changedSign_67 ?_
      refine lv_toI (z := V 1 (40 * LN q + j) + V 6 q - smF (rwV V (LN q)) (NN (LN q))) (rfl) ?_
      exact hret _ _ _ _ hP hS dX3_changedSign_68
    · exact absurd c27 (nI_nm1 j (by omega))
  · exact absurd c10 (by rw [hgq]; decide)

set_option maxHeartbeats 4000000 in
set_option maxRecDepth 100000 in
/-- changedSign_1 -/
theorem c_X3_changedSign_1 (l : Launch) (g : gT) (h : Nat) (X : Nat → Nat) (V : Nat → Nat → Int32) (th : Int32) (lc ec : Nat) (hlc : lc ≤ 12) (hec : ec ≤ 24) (x : Int32) (hxb : inB x ec = false) : wM g l yX3_changedSign wsX3_changedSign { frames := 5, cells := 0, slots := 0, locals := 114 } [.ref (h), .int (x)] (mdW g h X V th lc ec) (some (.int (0))) (mdW g h X V 1 lc ec) := by
  refine wr_ofI (cc := cX3_changedSign) (maxL := 3) (by decide) rfl (Nat.le_of_ble_eq_true rfl) ?_
  intro p e s m args below meth c H0 ls A Q hx hb hml hts hown hK hP hD hS hl hret
  have hl : lv_has ls 3 [(0, .ref (h)), (1, .int (x))] := hl
  have S : CallFix p m c cX3_changedSign 3 s args wsX3_changedSign RX3 := ⟨hx, hb, hml, hown, hts⟩
  have iX3 : ∀ w ∈ u_ws RX3 TX3 12, w ∈ wsX3_changedSign := by decide +kernel
  have f37 := hts (.fieldLink RX3 37 "LetterSealsModel" "thrown" "I") (by decide +kernel)
  obtain ⟨H, eH⟩ : ∃ H : Heap, H = H0 := ⟨_, rfl⟩
  rw [← eH] at hP ⊢
  have hS : va_S A H0 H [] := by rw [eH]; exact hS
  have hP : va_P (gD g) vwCl [(h, .inr (3, [.int (th), .int (nI lc), .ref (X 0), .ref (X 1), .int (nI ec), .ref (X 2), .ref (X 3), .ref (X 4), .ref (X 5), .ref (X 6), .ref (X 7), .ref (X 8)])), (X 0, .inl (gI g, 12, .inl (V 0))), (X 1, .inl (gI g, 480, .inl (V 1))), (X 2, .inl (gI g, 24, .inl (V 2))), (X 3, .inl (gI g, 24, .inl (V 3))), (X 4, .inl (gI g, 24, .inl (V 4))), (X 5, .inl (gI g, 192, .inl (V 5))), (X 6, .inl (gI g, 24, .inl (V 6))), (X 7, .inl (gI g, 24, .inl (V 7))), (X 8, .inl (gI g, 24, .inl (V 8)))] H := hP
  have hD : va_D A [(h, .inr (3, [.int (th), .int (nI lc), .ref (X 0), .ref (X 1), .int (nI ec), .ref (X 2), .ref (X 3), .ref (X 4), .ref (X 5), .ref (X 6), .ref (X 7), .ref (X 8)])), (X 0, .inl (gI g, 12, .inl (V 0))), (X 1, .inl (gI g, 480, .inl (V 1))), (X 2, .inl (gI g, 24, .inl (V 2))), (X 3, .inl (gI g, 24, .inl (V 3))), (X 4, .inl (gI g, 24, .inl (V 4))), (X 5, .inl (gI g, 192, .inl (V 5))), (X 6, .inl (gI g, 24, .inl (V 6))), (X 7, .inl (gI g, 24, .inl (V 7))), (X 8, .inl (gI g, 24, .inl (V 8)))] := hD
  refine lv_aload_n hx hb dX3_changedSign_0 rfl (lv_at hl 0 rfl) ?_
  refine lv_iconst (v := 0) hx hb dX3_changedSign_1 (by decide +kernel) ?_
  refine va_put (D := gD g) (ci := 3) (v := .int (0)) (ty := .int) (C := RX3) (T := TX3) (N := 12) hx hb hts iX3 tyX3 tyX3_ok nmX3 hown hK.1 hP hD hS 0 rfl rfl 0 (by decide) f37 (fun _ h9 => h9) rfl (by decide +kernel) rfl rfl (Nat.le_of_ble_eq_true rfl) dX3_changedSign_2 (fun H locs hP hD hS => ?_)
  have hP : va_P (gD g) vwCl [(h, .inr (3, [.int (0), .int (nI lc), .ref (X 0), .ref (X 1), .int (nI ec), .ref (X 2), .ref (X 3), .ref (X 4), .ref (X 5), .ref (X 6), .ref (X 7), .ref (X 8)])), (X 0, .inl (gI g, 12, .inl (V 0))), (X 1, .inl (gI g, 480, .inl (V 1))), (X 2, .inl (gI g, 24, .inl (V 2))), (X 3, .inl (gI g, 24, .inl (V 3))), (X 4, .inl (gI g, 24, .inl (V 4))), (X 5, .inl (gI g, 192, .inl (V 5))), (X 6, .inl (gI g, 24, .inl (V 6))), (X 7, .inl (gI g, 24, .inl (V 7))), (X 8, .inl (gI g, 24, .inl (V 8)))] H := hP
  have hD : va_D A [(h, .inr (3, [.int (0), .int (nI lc), .ref (X 0), .ref (X 1), .int (nI ec), .ref (X 2), .ref (X 3), .ref (X 4), .ref (X 5), .ref (X 6), .ref (X 7), .ref (X 8)])), (X 0, .inl (gI g, 12, .inl (V 0))), (X 1, .inl (gI g, 480, .inl (V 1))), (X 2, .inl (gI g, 24, .inl (V 2))), (X 3, .inl (gI g, 24, .inl (V 3))), (X 4, .inl (gI g, 24, .inl (V 4))), (X 5, .inl (gI g, 192, .inl (V 5))), (X 6, .inl (gI g, 24, .inl (V 6))), (X 7, .inl (gI g, 24, .inl (V 7))), (X 8, .inl (gI g, 24, .inl (V 8)))] := hD
  refine lv_aload_n hx hb dX3_changedSign_5 rfl (lv_at hl 0 rfl) ?_
  refine lv_iload_n hx hb dX3_changedSign_6 rfl (lv_at hl 1 rfl) ?_
  refine p_V (As := [.int (x)]) (rest := []) S (c_X3_isEnvelope l g h X V 0 lc ec (x) hlc hec) (cwV 1 hts gX3_changedSign_X3_isEnvelope rfl rfl rfl (by decide +kernel) ⟨Nat.le_of_ble_eq_true rfl, Nat.le_of_ble_eq_true rfl⟩) hK (va_recv hK.1 hP (ci := 3) (q0 := 0) rfl rfl) (hP) rfl hl.1 rfl (Nat.le_of_ble_eq_true rfl) dX3_changedSign_7 ⟨Nat.le_of_ble_eq_true rfl, Nat.le_of_ble_eq_true rfl⟩ ?_
  refine br_neB (tgt := 19) hx hb dX3_changedSign_10 (by decide) (fun c10 => ?_) (fun c10 => ?_)
  · exact absurd c10 (by rw [hxb]; decide)
  · refine lv_aload_n hx hb dX3_changedSign_13 rfl (lv_at hl 0 rfl) ?_
    refine lv_iconst (v := 1) hx hb dX3_changedSign_14 (by decide +kernel) ?_
    refine w_V (As := [.int (1)]) (rest := []) S (c_X3_no l g h X V 0 lc ec (1)) (cwV 1 hts gX3_changedSign_X3_no rfl rfl rfl (by decide +kernel) ⟨Nat.le_of_ble_eq_true rfl, Nat.le_of_ble_eq_true rfl⟩) hK (va_recv hK.1 hP (ci := 3) (q0 := 0) rfl rfl) hP (hD.weaken (fun _ _ _ _ => trivial)) hS (wA_D hD [0, 1, 2, 3, 4, 5, 6, 7, 8, 9] rfl) rfl hl.1 rfl (Nat.le_of_ble_eq_true rfl) dX3_changedSign_15 ⟨Nat.le_of_ble_eq_true rfl, Nat.le_of_ble_eq_true rfl⟩ (fun H locs hP1 hz1 hk1 hS => ?_)
    have hP : va_P (gD g) vwCl [(h, .inr (3, [.int (1), .int (nI lc), .ref (X 0), .ref (X 1), .int (nI ec), .ref (X 2), .ref (X 3), .ref (X 4), .ref (X 5), .ref (X 6), .ref (X 7), .ref (X 8)])), (X 0, .inl (gI g, 12, .inl (V 0))), (X 1, .inl (gI g, 480, .inl (V 1))), (X 2, .inl (gI g, 24, .inl (V 2))), (X 3, .inl (gI g, 24, .inl (V 3))), (X 4, .inl (gI g, 24, .inl (V 4))), (X 5, .inl (gI g, 192, .inl (V 5))), (X 6, .inl (gI g, 24, .inl (V 6))), (X 7, .inl (gI g, 24, .inl (V 7))), (X 8, .inl (gI g, 24, .inl (V 8)))] H := hP1
    have hD : va_D A [(h, .inr (3, [.int (1), .int (nI lc), .ref (X 0), .ref (X 1), .int (nI ec), .ref (X 2), .ref (X 3), .ref (X 4), .ref (X 5), .ref (X 6), .ref (X 7), .ref (X 8)])), (X 0, .inl (gI g, 12, .inl (V 0))), (X 1, .inl (gI g, 480, .inl (V 1))), (X 2, .inl (gI g, 24, .inl (V 2))), (X 3, .inl (gI g, 24, .inl (V 3))), (X 4, .inl (gI g, 24, .inl (V 4))), (X 5, .inl (gI g, 192, .inl (V 5))), (X 6, .inl (gI g, 24, .inl (V 6))), (X 7, .inl (gI g, 24, .inl (V 7))), (X 8, .inl (gI g, 24, .inl (V 8)))] := D_same hD rfl
    exact hret _ _ _ _ hP hS dX3_changedSign_18

set_option maxHeartbeats 4000000 in
set_option maxRecDepth 100000 in
/-- changedSign_2 -/
theorem c_X3_changedSign_2 (l : Launch) (g : gT) (h : Nat) (X : Nat → Nat) (V : Nat → Nat → Int32) (th : Int32) (lc ec : Nat) (NN : Nat → Nat) (hlc : lc ≤ 12) (hec : ec ≤ 24) (hNN : ∀ i, i < lc → V 0 i = nI (NN i) ∧ NN i ≤ 40) (LN SC : Nat → Nat) (hEN : ∀ q, q < ec → V 2 q = nI (LN q) ∧ LN q < lc ∧ V 4 q = nI (SC q) ∧ SC q ≤ 40) (q : Nat) (hq : q < ec) (hc : chM (asP V NN LN q) (SC q) (NN (LN q)) (V 6 q - smF (rwV V (LN q)) (NN (LN q))) (V 7 q - wtF (rwV V (LN q)) (NN (LN q))) (rwV V (LN q)) = -1) : wM g l yX3_changedSign wsX3_changedSign { frames := 5, cells := 0, slots := 0, locals := 114 } [.ref (h), .int (nI q)] (mdW g h X V th lc ec) (some (.int (0))) (mdW g h X V 2 lc ec) := by
  refine wr_ofI (cc := cX3_changedSign) (maxL := 3) (by decide) rfl (Nat.le_of_ble_eq_true rfl) ?_
  intro p e s m args below meth c H0 ls A Q hx hb hml hts hown hK hP hD hS hl hret
  have hl : lv_has ls 3 [(0, .ref (h)), (1, .int (nI q))] := hl
  have S : CallFix p m c cX3_changedSign 3 s args wsX3_changedSign RX3 := ⟨hx, hb, hml, hown, hts⟩
  have hgq : inB (nI q) ec = true := inB_nI hq (by omega)
  have hLN := (hEN q hq).1
  have hLl := (hEN q hq).2.1
  have hSC := (hEN q hq).2.2.1
  have hSl := (hEN q hq).2.2.2
  have hVn := (hNN _ hLl).1
  have hn := (hNN _ hLl).2
  have iX3 : ∀ w ∈ u_ws RX3 TX3 12, w ∈ wsX3_changedSign := by decide +kernel
  have f37 := hts (.fieldLink RX3 37 "LetterSealsModel" "thrown" "I") (by decide +kernel)
  obtain ⟨H, eH⟩ : ∃ H : Heap, H = H0 := ⟨_, rfl⟩
  rw [← eH] at hP ⊢
  have hS : va_S A H0 H [] := by rw [eH]; exact hS
  have hP : va_P (gD g) vwCl [(h, .inr (3, [.int (th), .int (nI lc), .ref (X 0), .ref (X 1), .int (nI ec), .ref (X 2), .ref (X 3), .ref (X 4), .ref (X 5), .ref (X 6), .ref (X 7), .ref (X 8)])), (X 0, .inl (gI g, 12, .inl (V 0))), (X 1, .inl (gI g, 480, .inl (V 1))), (X 2, .inl (gI g, 24, .inl (V 2))), (X 3, .inl (gI g, 24, .inl (V 3))), (X 4, .inl (gI g, 24, .inl (V 4))), (X 5, .inl (gI g, 192, .inl (V 5))), (X 6, .inl (gI g, 24, .inl (V 6))), (X 7, .inl (gI g, 24, .inl (V 7))), (X 8, .inl (gI g, 24, .inl (V 8)))] H := hP
  have hD : va_D A [(h, .inr (3, [.int (th), .int (nI lc), .ref (X 0), .ref (X 1), .int (nI ec), .ref (X 2), .ref (X 3), .ref (X 4), .ref (X 5), .ref (X 6), .ref (X 7), .ref (X 8)])), (X 0, .inl (gI g, 12, .inl (V 0))), (X 1, .inl (gI g, 480, .inl (V 1))), (X 2, .inl (gI g, 24, .inl (V 2))), (X 3, .inl (gI g, 24, .inl (V 3))), (X 4, .inl (gI g, 24, .inl (V 4))), (X 5, .inl (gI g, 192, .inl (V 5))), (X 6, .inl (gI g, 24, .inl (V 6))), (X 7, .inl (gI g, 24, .inl (V 7))), (X 8, .inl (gI g, 24, .inl (V 8)))] := hD
  refine lv_aload_n hx hb dX3_changedSign_0 rfl (lv_at hl 0 rfl) ?_
  refine lv_iconst (v := 0) hx hb dX3_changedSign_1 (by decide +kernel) ?_
  refine va_put (D := gD g) (ci := 3) (v := .int (0)) (ty := .int) (C := RX3) (T := TX3) (N := 12) hx hb hts iX3 tyX3 tyX3_ok nmX3 hown hK.1 hP hD hS 0 rfl rfl 0 (by decide) f37 (fun _ h9 => h9) rfl (by decide +kernel) rfl rfl (Nat.le_of_ble_eq_true rfl) dX3_changedSign_2 (fun H locs hP hD hS => ?_)
  have hP : va_P (gD g) vwCl [(h, .inr (3, [.int (0), .int (nI lc), .ref (X 0), .ref (X 1), .int (nI ec), .ref (X 2), .ref (X 3), .ref (X 4), .ref (X 5), .ref (X 6), .ref (X 7), .ref (X 8)])), (X 0, .inl (gI g, 12, .inl (V 0))), (X 1, .inl (gI g, 480, .inl (V 1))), (X 2, .inl (gI g, 24, .inl (V 2))), (X 3, .inl (gI g, 24, .inl (V 3))), (X 4, .inl (gI g, 24, .inl (V 4))), (X 5, .inl (gI g, 192, .inl (V 5))), (X 6, .inl (gI g, 24, .inl (V 6))), (X 7, .inl (gI g, 24, .inl (V 7))), (X 8, .inl (gI g, 24, .inl (V 8)))] H := hP
  have hD : va_D A [(h, .inr (3, [.int (0), .int (nI lc), .ref (X 0), .ref (X 1), .int (nI ec), .ref (X 2), .ref (X 3), .ref (X 4), .ref (X 5), .ref (X 6), .ref (X 7), .ref (X 8)])), (X 0, .inl (gI g, 12, .inl (V 0))), (X 1, .inl (gI g, 480, .inl (V 1))), (X 2, .inl (gI g, 24, .inl (V 2))), (X 3, .inl (gI g, 24, .inl (V 3))), (X 4, .inl (gI g, 24, .inl (V 4))), (X 5, .inl (gI g, 192, .inl (V 5))), (X 6, .inl (gI g, 24, .inl (V 6))), (X 7, .inl (gI g, 24, .inl (V 7))), (X 8, .inl (gI g, 24, .inl (V 8)))] := hD
  refine lv_aload_n hx hb dX3_changedSign_5 rfl (lv_at hl 0 rfl) ?_
  refine lv_iload_n hx hb dX3_changedSign_6 rfl (lv_at hl 1 rfl) ?_
  refine p_V (As := [.int (nI q)]) (rest := []) S (c_X3_isEnvelope l g h X V 0 lc ec (nI q) hlc hec) (cwV 1 hts gX3_changedSign_X3_isEnvelope rfl rfl rfl (by decide +kernel) ⟨Nat.le_of_ble_eq_true rfl, Nat.le_of_ble_eq_true rfl⟩) hK (va_recv hK.1 hP (ci := 3) (q0 := 0) rfl rfl) (hP) rfl hl.1 rfl (Nat.le_of_ble_eq_true rfl) dX3_changedSign_7 ⟨Nat.le_of_ble_eq_true rfl, Nat.le_of_ble_eq_true rfl⟩ ?_
  refine br_neB (tgt := 19) hx hb dX3_changedSign_10 (by decide) (fun c10 => ?_) (fun c10 => ?_)
  · refine lv_aload_n hx hb dX3_changedSign_19 rfl (lv_at hl 0 rfl) ?_
    refine lv_iload_n hx hb dX3_changedSign_20 rfl (lv_at hl 1 rfl) ?_
    refine p_V (As := [.int (nI q)]) (rest := []) S (c_X3_changedAt l g h X V 0 lc ec NN hlc hec hNN LN SC hEN q hq) (cwV 1 hts gX3_changedSign_X3_changedAt rfl rfl rfl (by decide +kernel) ⟨Nat.le_of_ble_eq_true rfl, Nat.le_of_ble_eq_true rfl⟩) hK (va_recv hK.1 hP (ci := 3) (q0 := 0) rfl rfl) (hP) rfl hl.1 rfl (Nat.le_of_ble_eq_true rfl) dX3_changedSign_21 ⟨Nat.le_of_ble_eq_true rfl, Nat.le_of_ble_eq_true rfl⟩ ?_
    refine lv_toI (z := (-1)) (hc) ?_
    refine lv_istore_n (lv' := [(2, .int ((-1))), (0, .ref (h)), (1, .int (nI q))]) hx hb dX3_changedSign_24 rfl hl (by decide) rfl (fun ls hl => ?_)
    refine lv_iload_n hx hb dX3_changedSign_25 rfl (lv_at hl 0 rfl) ?_
    refine lv_iconst (v := (-1)) hx hb dX3_changedSign_26 (by decide +kernel) ?_
    refine lv_icmp_ne (tgt := 38) hx hb dX3_changedSign_27 (by decide) (fun c27 => ?_) (fun c27 => ?_)
    · exact absurd rfl c27
    · refine lv_aload_n hx hb dX3_changedSign_30 rfl (lv_at hl 1 rfl) ?_
      refine lv_iconst (v := 2) hx hb dX3_changedSign_31 (by decide +kernel) ?_
      refine w_V (As := [.int (2)]) (rest := []) S (c_X3_no l g h X V 0 lc ec (2)) (cwV 1 hts gX3_changedSign_X3_no rfl rfl rfl (by decide +kernel) ⟨Nat.le_of_ble_eq_true rfl, Nat.le_of_ble_eq_true rfl⟩) hK (va_recv hK.1 hP (ci := 3) (q0 := 0) rfl rfl) hP (hD.weaken (fun _ _ _ _ => trivial)) hS (wA_D hD [0, 1, 2, 3, 4, 5, 6, 7, 8, 9] rfl) rfl hl.1 rfl (Nat.le_of_ble_eq_true rfl) dX3_changedSign_32 ⟨Nat.le_of_ble_eq_true rfl, Nat.le_of_ble_eq_true rfl⟩ (fun H locs hP1 hz1 hk1 hS => ?_)
      have hP : va_P (gD g) vwCl [(h, .inr (3, [.int (2), .int (nI lc), .ref (X 0), .ref (X 1), .int (nI ec), .ref (X 2), .ref (X 3), .ref (X 4), .ref (X 5), .ref (X 6), .ref (X 7), .ref (X 8)])), (X 0, .inl (gI g, 12, .inl (V 0))), (X 1, .inl (gI g, 480, .inl (V 1))), (X 2, .inl (gI g, 24, .inl (V 2))), (X 3, .inl (gI g, 24, .inl (V 3))), (X 4, .inl (gI g, 24, .inl (V 4))), (X 5, .inl (gI g, 192, .inl (V 5))), (X 6, .inl (gI g, 24, .inl (V 6))), (X 7, .inl (gI g, 24, .inl (V 7))), (X 8, .inl (gI g, 24, .inl (V 8)))] H := hP1
      have hD : va_D A [(h, .inr (3, [.int (2), .int (nI lc), .ref (X 0), .ref (X 1), .int (nI ec), .ref (X 2), .ref (X 3), .ref (X 4), .ref (X 5), .ref (X 6), .ref (X 7), .ref (X 8)])), (X 0, .inl (gI g, 12, .inl (V 0))), (X 1, .inl (gI g, 480, .inl (V 1))), (X 2, .inl (gI g, 24, .inl (V 2))), (X 3, .inl (gI g, 24, .inl (V 3))), (X 4, .inl (gI g, 24, .inl (V 4))), (X 5, .inl (gI g, 192, .inl (V 5))), (X 6, .inl (gI g, 24, .inl (V 6))), (X 7, .inl (gI g, 24, .inl (V 7))), (X 8, .inl (gI g, 24, .inl (V 8)))] := D_same hD rfl
      refine lv_goto (tgt := 68) hx hb dX3_changedSign_35 (by decide) ?_
      exact hret _ _ _ _ hP hS dX3_changedSign_68
  · exact absurd c10 (by rw [hgq]; decide)

set_option maxHeartbeats 4000000 in
set_option maxRecDepth 100000 in
/-- wouldSeal -/
theorem c_X3_wouldSeal (l : Launch) (g : gT) (h : Nat) (X : Nat → Nat) (V : Nat → Nat → Int32) (th : Int32) (lc ec : Nat) (NN : Nat → Nat) (hlc : lc ≤ 12) (hec : ec ≤ 24) (hNN : ∀ i, i < lc → V 0 i = nI (NN i) ∧ NN i ≤ 40) (k : Nat) (hk : k < lc) (hn1 : 0 < NN k) : wM g l yX3_wouldSeal wsX3_wouldSeal { frames := 3, cells := 0, slots := 0, locals := 68 } [.ref (h), .int (nI k)] (mdW g h X V th lc ec) (some (.int (slF (lsV (V 8) ec) (dgF (rwV V k) (NN k))))) (mdW g h X V 0 lc ec) := by
  refine wr_ofI (cc := cX3_wouldSeal) (maxL := 2) (by decide) rfl (Nat.le_of_ble_eq_true rfl) ?_
  intro p e s m args below meth c H0 ls A Q hx hb hml hts hown hK hP hD hS hl hret
  have hl : lv_has ls 2 [(0, .ref (h)), (1, .int (nI k))] := hl
  have S : CallFix p m c cX3_wouldSeal 2 s args wsX3_wouldSeal RX3 := ⟨hx, hb, hml, hown, hts⟩
  have hgk : inB (nI k) lc = true := inB_nI hk (by omega)
  have hVn := (hNN k hk).1
  have hn := (hNN k hk).2
  have iX3 : ∀ w ∈ u_ws RX3 TX3 12, w ∈ wsX3_wouldSeal := by decide +kernel
  have f9 := hts (.fieldLink RX3 9 "LetterSealsModel" "many" "[I") (by decide +kernel)
  have f37 := hts (.fieldLink RX3 37 "LetterSealsModel" "thrown" "I") (by decide +kernel)
  obtain ⟨H, eH⟩ : ∃ H : Heap, H = H0 := ⟨_, rfl⟩
  rw [← eH] at hP ⊢
  have hS : va_S A H0 H [] := by rw [eH]; exact hS
  have hP : va_P (gD g) vwCl [(h, .inr (3, [.int (th), .int (nI lc), .ref (X 0), .ref (X 1), .int (nI ec), .ref (X 2), .ref (X 3), .ref (X 4), .ref (X 5), .ref (X 6), .ref (X 7), .ref (X 8)])), (X 0, .inl (gI g, 12, .inl (V 0))), (X 1, .inl (gI g, 480, .inl (V 1))), (X 2, .inl (gI g, 24, .inl (V 2))), (X 3, .inl (gI g, 24, .inl (V 3))), (X 4, .inl (gI g, 24, .inl (V 4))), (X 5, .inl (gI g, 192, .inl (V 5))), (X 6, .inl (gI g, 24, .inl (V 6))), (X 7, .inl (gI g, 24, .inl (V 7))), (X 8, .inl (gI g, 24, .inl (V 8)))] H := hP
  have hD : va_D A [(h, .inr (3, [.int (th), .int (nI lc), .ref (X 0), .ref (X 1), .int (nI ec), .ref (X 2), .ref (X 3), .ref (X 4), .ref (X 5), .ref (X 6), .ref (X 7), .ref (X 8)])), (X 0, .inl (gI g, 12, .inl (V 0))), (X 1, .inl (gI g, 480, .inl (V 1))), (X 2, .inl (gI g, 24, .inl (V 2))), (X 3, .inl (gI g, 24, .inl (V 3))), (X 4, .inl (gI g, 24, .inl (V 4))), (X 5, .inl (gI g, 192, .inl (V 5))), (X 6, .inl (gI g, 24, .inl (V 6))), (X 7, .inl (gI g, 24, .inl (V 7))), (X 8, .inl (gI g, 24, .inl (V 8)))] := hD
  refine lv_aload_n hx hb dX3_wouldSeal_0 rfl (lv_at hl 0 rfl) ?_
  refine lv_iconst (v := 0) hx hb dX3_wouldSeal_1 (by decide +kernel) ?_
  refine va_put (D := gD g) (ci := 3) (v := .int (0)) (ty := .int) (C := RX3) (T := TX3) (N := 12) hx hb hts iX3 tyX3 tyX3_ok nmX3 hown hK.1 hP hD hS 0 rfl rfl 0 (by decide) f37 (fun _ h9 => h9) rfl (by decide +kernel) rfl rfl (Nat.le_of_ble_eq_true rfl) dX3_wouldSeal_2 (fun H locs hP hD hS => ?_)
  have hP : va_P (gD g) vwCl [(h, .inr (3, [.int (0), .int (nI lc), .ref (X 0), .ref (X 1), .int (nI ec), .ref (X 2), .ref (X 3), .ref (X 4), .ref (X 5), .ref (X 6), .ref (X 7), .ref (X 8)])), (X 0, .inl (gI g, 12, .inl (V 0))), (X 1, .inl (gI g, 480, .inl (V 1))), (X 2, .inl (gI g, 24, .inl (V 2))), (X 3, .inl (gI g, 24, .inl (V 3))), (X 4, .inl (gI g, 24, .inl (V 4))), (X 5, .inl (gI g, 192, .inl (V 5))), (X 6, .inl (gI g, 24, .inl (V 6))), (X 7, .inl (gI g, 24, .inl (V 7))), (X 8, .inl (gI g, 24, .inl (V 8)))] H := hP
  have hD : va_D A [(h, .inr (3, [.int (0), .int (nI lc), .ref (X 0), .ref (X 1), .int (nI ec), .ref (X 2), .ref (X 3), .ref (X 4), .ref (X 5), .ref (X 6), .ref (X 7), .ref (X 8)])), (X 0, .inl (gI g, 12, .inl (V 0))), (X 1, .inl (gI g, 480, .inl (V 1))), (X 2, .inl (gI g, 24, .inl (V 2))), (X 3, .inl (gI g, 24, .inl (V 3))), (X 4, .inl (gI g, 24, .inl (V 4))), (X 5, .inl (gI g, 192, .inl (V 5))), (X 6, .inl (gI g, 24, .inl (V 6))), (X 7, .inl (gI g, 24, .inl (V 7))), (X 8, .inl (gI g, 24, .inl (V 8)))] := hD
  refine lv_aload_n hx hb dX3_wouldSeal_5 rfl (lv_at hl 0 rfl) ?_
  refine lv_iload_n hx hb dX3_wouldSeal_6 rfl (lv_at hl 1 rfl) ?_
  refine p_V (As := [.int (nI k)]) (rest := []) S (c_X3_isLetter l g h X V 0 lc ec (nI k) hlc hec) (cwV 1 hts gX3_wouldSeal_X3_isLetter rfl rfl rfl (by decide +kernel) ⟨Nat.le_of_ble_eq_true rfl, Nat.le_of_ble_eq_true rfl⟩) hK (va_recv hK.1 hP (ci := 3) (q0 := 0) rfl rfl) (hP) rfl hl.1 rfl (Nat.le_of_ble_eq_true rfl) dX3_wouldSeal_7 ⟨Nat.le_of_ble_eq_true rfl, Nat.le_of_ble_eq_true rfl⟩ ?_
  refine br_neB (tgt := 19) hx hb dX3_wouldSeal_10 (by decide) (fun c10 => ?_) (fun c10 => ?_)
  · refine lv_aload_n hx hb dX3_wouldSeal_19 rfl (lv_at hl 0 rfl) ?_
    refine va_get (D := gD g) (ci := 3) (v := .ref (X 0)) (C := RX3) (T := TX3) (N := 12) hx hb hts iX3 hown hK.1 hP 0 rfl rfl 2 (by decide) f9 (fun _ h9 => h9) rfl dX3_wouldSeal_20 ?_
    refine lv_iload_n hx hb dX3_wouldSeal_23 rfl (lv_at hl 1 rfl) ?_
    refine ld_I (k := k) (n := 12) (f := V 0) hx hb hK.1 hP 1 rfl (by omega) (by omega) dX3_wouldSeal_24 ?_
    refine lv_toI (z := nI (NN k)) (hVn) ?_
    refine br_ne0 (a := NN k) (tgt := 36) hx hb (by omega) dX3_wouldSeal_25 (by decide) (fun c25 => ?_) (fun c25 => ?_)
    · refine lv_aload_n hx hb dX3_wouldSeal_36 rfl (lv_at hl 0 rfl) ?_
      refine lv_aload_n hx hb dX3_wouldSeal_37 rfl (lv_at hl 0 rfl) ?_
      refine lv_iload_n hx hb dX3_wouldSeal_38 rfl (lv_at hl 1 rfl) ?_
      refine p_V (As := [.int (nI k)]) (rest := [.ref (h)]) S (c_X3_digestNow l g h X V 0 lc ec NN hlc hec hNN k hk) (cwV 1 hts gX3_wouldSeal_X3_digestNow rfl rfl rfl (by decide +kernel) ⟨Nat.le_of_ble_eq_true rfl, Nat.le_of_ble_eq_true rfl⟩) hK (va_recv hK.1 hP (ci := 3) (q0 := 0) rfl rfl) (hP) rfl hl.1 rfl (Nat.le_of_ble_eq_true rfl) dX3_wouldSeal_39 ⟨Nat.le_of_ble_eq_true rfl, Nat.le_of_ble_eq_true rfl⟩ ?_
      refine p_V (As := [.int (dgF (rwV V k) (NN k))]) (rest := []) S (c_X3_sealWith l g h X V 0 lc ec (dgF (rwV V k) (NN k)) hec) (cwV 1 hts gX3_wouldSeal_X3_sealWith rfl rfl rfl (by decide +kernel) ⟨Nat.le_of_ble_eq_true rfl, Nat.le_of_ble_eq_true rfl⟩) hK (va_recv hK.1 hP (ci := 3) (q0 := 0) rfl rfl) (hP) rfl hl.1 rfl (Nat.le_of_ble_eq_true rfl) dX3_wouldSeal_42 ⟨Nat.le_of_ble_eq_true rfl, Nat.le_of_ble_eq_true rfl⟩ ?_
      exact hret _ _ _ _ hP hS dX3_wouldSeal_45
    · omega
  · exact absurd c10 (by rw [hgk]; decide)

set_option maxHeartbeats 4000000 in
set_option maxRecDepth 100000 in
/-- wouldSeal_1 -/
theorem c_X3_wouldSeal_1 (l : Launch) (g : gT) (h : Nat) (X : Nat → Nat) (V : Nat → Nat → Int32) (th : Int32) (lc ec : Nat) (hlc : lc ≤ 12) (hec : ec ≤ 24) (x : Int32) (hxb : inB x lc = false) : wM g l yX3_wouldSeal wsX3_wouldSeal { frames := 3, cells := 0, slots := 0, locals := 68 } [.ref (h), .int (x)] (mdW g h X V th lc ec) (some (.int (0))) (mdW g h X V 1 lc ec) := by
  refine wr_ofI (cc := cX3_wouldSeal) (maxL := 2) (by decide) rfl (Nat.le_of_ble_eq_true rfl) ?_
  intro p e s m args below meth c H0 ls A Q hx hb hml hts hown hK hP hD hS hl hret
  have hl : lv_has ls 2 [(0, .ref (h)), (1, .int (x))] := hl
  have S : CallFix p m c cX3_wouldSeal 2 s args wsX3_wouldSeal RX3 := ⟨hx, hb, hml, hown, hts⟩
  have iX3 : ∀ w ∈ u_ws RX3 TX3 12, w ∈ wsX3_wouldSeal := by decide +kernel
  have f37 := hts (.fieldLink RX3 37 "LetterSealsModel" "thrown" "I") (by decide +kernel)
  obtain ⟨H, eH⟩ : ∃ H : Heap, H = H0 := ⟨_, rfl⟩
  rw [← eH] at hP ⊢
  have hS : va_S A H0 H [] := by rw [eH]; exact hS
  have hP : va_P (gD g) vwCl [(h, .inr (3, [.int (th), .int (nI lc), .ref (X 0), .ref (X 1), .int (nI ec), .ref (X 2), .ref (X 3), .ref (X 4), .ref (X 5), .ref (X 6), .ref (X 7), .ref (X 8)])), (X 0, .inl (gI g, 12, .inl (V 0))), (X 1, .inl (gI g, 480, .inl (V 1))), (X 2, .inl (gI g, 24, .inl (V 2))), (X 3, .inl (gI g, 24, .inl (V 3))), (X 4, .inl (gI g, 24, .inl (V 4))), (X 5, .inl (gI g, 192, .inl (V 5))), (X 6, .inl (gI g, 24, .inl (V 6))), (X 7, .inl (gI g, 24, .inl (V 7))), (X 8, .inl (gI g, 24, .inl (V 8)))] H := hP
  have hD : va_D A [(h, .inr (3, [.int (th), .int (nI lc), .ref (X 0), .ref (X 1), .int (nI ec), .ref (X 2), .ref (X 3), .ref (X 4), .ref (X 5), .ref (X 6), .ref (X 7), .ref (X 8)])), (X 0, .inl (gI g, 12, .inl (V 0))), (X 1, .inl (gI g, 480, .inl (V 1))), (X 2, .inl (gI g, 24, .inl (V 2))), (X 3, .inl (gI g, 24, .inl (V 3))), (X 4, .inl (gI g, 24, .inl (V 4))), (X 5, .inl (gI g, 192, .inl (V 5))), (X 6, .inl (gI g, 24, .inl (V 6))), (X 7, .inl (gI g, 24, .inl (V 7))), (X 8, .inl (gI g, 24, .inl (V 8)))] := hD
  refine lv_aload_n hx hb dX3_wouldSeal_0 rfl (lv_at hl 0 rfl) ?_
  refine lv_iconst (v := 0) hx hb dX3_wouldSeal_1 (by decide +kernel) ?_
  refine va_put (D := gD g) (ci := 3) (v := .int (0)) (ty := .int) (C := RX3) (T := TX3) (N := 12) hx hb hts iX3 tyX3 tyX3_ok nmX3 hown hK.1 hP hD hS 0 rfl rfl 0 (by decide) f37 (fun _ h9 => h9) rfl (by decide +kernel) rfl rfl (Nat.le_of_ble_eq_true rfl) dX3_wouldSeal_2 (fun H locs hP hD hS => ?_)
  have hP : va_P (gD g) vwCl [(h, .inr (3, [.int (0), .int (nI lc), .ref (X 0), .ref (X 1), .int (nI ec), .ref (X 2), .ref (X 3), .ref (X 4), .ref (X 5), .ref (X 6), .ref (X 7), .ref (X 8)])), (X 0, .inl (gI g, 12, .inl (V 0))), (X 1, .inl (gI g, 480, .inl (V 1))), (X 2, .inl (gI g, 24, .inl (V 2))), (X 3, .inl (gI g, 24, .inl (V 3))), (X 4, .inl (gI g, 24, .inl (V 4))), (X 5, .inl (gI g, 192, .inl (V 5))), (X 6, .inl (gI g, 24, .inl (V 6))), (X 7, .inl (gI g, 24, .inl (V 7))), (X 8, .inl (gI g, 24, .inl (V 8)))] H := hP
  have hD : va_D A [(h, .inr (3, [.int (0), .int (nI lc), .ref (X 0), .ref (X 1), .int (nI ec), .ref (X 2), .ref (X 3), .ref (X 4), .ref (X 5), .ref (X 6), .ref (X 7), .ref (X 8)])), (X 0, .inl (gI g, 12, .inl (V 0))), (X 1, .inl (gI g, 480, .inl (V 1))), (X 2, .inl (gI g, 24, .inl (V 2))), (X 3, .inl (gI g, 24, .inl (V 3))), (X 4, .inl (gI g, 24, .inl (V 4))), (X 5, .inl (gI g, 192, .inl (V 5))), (X 6, .inl (gI g, 24, .inl (V 6))), (X 7, .inl (gI g, 24, .inl (V 7))), (X 8, .inl (gI g, 24, .inl (V 8)))] := hD
  refine lv_aload_n hx hb dX3_wouldSeal_5 rfl (lv_at hl 0 rfl) ?_
  refine lv_iload_n hx hb dX3_wouldSeal_6 rfl (lv_at hl 1 rfl) ?_
  refine p_V (As := [.int (x)]) (rest := []) S (c_X3_isLetter l g h X V 0 lc ec (x) hlc hec) (cwV 1 hts gX3_wouldSeal_X3_isLetter rfl rfl rfl (by decide +kernel) ⟨Nat.le_of_ble_eq_true rfl, Nat.le_of_ble_eq_true rfl⟩) hK (va_recv hK.1 hP (ci := 3) (q0 := 0) rfl rfl) (hP) rfl hl.1 rfl (Nat.le_of_ble_eq_true rfl) dX3_wouldSeal_7 ⟨Nat.le_of_ble_eq_true rfl, Nat.le_of_ble_eq_true rfl⟩ ?_
  refine br_neB (tgt := 19) hx hb dX3_wouldSeal_10 (by decide) (fun c10 => ?_) (fun c10 => ?_)
  · exact absurd c10 (by rw [hxb]; decide)
  · refine lv_aload_n hx hb dX3_wouldSeal_13 rfl (lv_at hl 0 rfl) ?_
    refine lv_iconst (v := 1) hx hb dX3_wouldSeal_14 (by decide +kernel) ?_
    refine w_V (As := [.int (1)]) (rest := []) S (c_X3_no l g h X V 0 lc ec (1)) (cwV 1 hts gX3_wouldSeal_X3_no rfl rfl rfl (by decide +kernel) ⟨Nat.le_of_ble_eq_true rfl, Nat.le_of_ble_eq_true rfl⟩) hK (va_recv hK.1 hP (ci := 3) (q0 := 0) rfl rfl) hP (hD.weaken (fun _ _ _ _ => trivial)) hS (wA_D hD [0, 1, 2, 3, 4, 5, 6, 7, 8, 9] rfl) rfl hl.1 rfl (Nat.le_of_ble_eq_true rfl) dX3_wouldSeal_15 ⟨Nat.le_of_ble_eq_true rfl, Nat.le_of_ble_eq_true rfl⟩ (fun H locs hP1 hz1 hk1 hS => ?_)
    have hP : va_P (gD g) vwCl [(h, .inr (3, [.int (1), .int (nI lc), .ref (X 0), .ref (X 1), .int (nI ec), .ref (X 2), .ref (X 3), .ref (X 4), .ref (X 5), .ref (X 6), .ref (X 7), .ref (X 8)])), (X 0, .inl (gI g, 12, .inl (V 0))), (X 1, .inl (gI g, 480, .inl (V 1))), (X 2, .inl (gI g, 24, .inl (V 2))), (X 3, .inl (gI g, 24, .inl (V 3))), (X 4, .inl (gI g, 24, .inl (V 4))), (X 5, .inl (gI g, 192, .inl (V 5))), (X 6, .inl (gI g, 24, .inl (V 6))), (X 7, .inl (gI g, 24, .inl (V 7))), (X 8, .inl (gI g, 24, .inl (V 8)))] H := hP1
    have hD : va_D A [(h, .inr (3, [.int (1), .int (nI lc), .ref (X 0), .ref (X 1), .int (nI ec), .ref (X 2), .ref (X 3), .ref (X 4), .ref (X 5), .ref (X 6), .ref (X 7), .ref (X 8)])), (X 0, .inl (gI g, 12, .inl (V 0))), (X 1, .inl (gI g, 480, .inl (V 1))), (X 2, .inl (gI g, 24, .inl (V 2))), (X 3, .inl (gI g, 24, .inl (V 3))), (X 4, .inl (gI g, 24, .inl (V 4))), (X 5, .inl (gI g, 192, .inl (V 5))), (X 6, .inl (gI g, 24, .inl (V 6))), (X 7, .inl (gI g, 24, .inl (V 7))), (X 8, .inl (gI g, 24, .inl (V 8)))] := D_same hD rfl
    exact hret _ _ _ _ hP hS dX3_wouldSeal_18

set_option maxHeartbeats 4000000 in
set_option maxRecDepth 100000 in
/-- wouldSeal_2 -/
theorem c_X3_wouldSeal_2 (l : Launch) (g : gT) (h : Nat) (X : Nat → Nat) (V : Nat → Nat → Int32) (th : Int32) (lc ec : Nat) (NN : Nat → Nat) (hlc : lc ≤ 12) (hec : ec ≤ 24) (hNN : ∀ i, i < lc → V 0 i = nI (NN i) ∧ NN i ≤ 40) (k : Nat) (hk : k < lc) (hn1 : NN k = 0) : wM g l yX3_wouldSeal wsX3_wouldSeal { frames := 3, cells := 0, slots := 0, locals := 68 } [.ref (h), .int (nI k)] (mdW g h X V th lc ec) (some (.int (0))) (mdW g h X V 2 lc ec) := by
  refine wr_ofI (cc := cX3_wouldSeal) (maxL := 2) (by decide) rfl (Nat.le_of_ble_eq_true rfl) ?_
  intro p e s m args below meth c H0 ls A Q hx hb hml hts hown hK hP hD hS hl hret
  have hl : lv_has ls 2 [(0, .ref (h)), (1, .int (nI k))] := hl
  have S : CallFix p m c cX3_wouldSeal 2 s args wsX3_wouldSeal RX3 := ⟨hx, hb, hml, hown, hts⟩
  have hgk : inB (nI k) lc = true := inB_nI hk (by omega)
  have hVn := (hNN k hk).1
  have hn := (hNN k hk).2
  have iX3 : ∀ w ∈ u_ws RX3 TX3 12, w ∈ wsX3_wouldSeal := by decide +kernel
  have f9 := hts (.fieldLink RX3 9 "LetterSealsModel" "many" "[I") (by decide +kernel)
  have f37 := hts (.fieldLink RX3 37 "LetterSealsModel" "thrown" "I") (by decide +kernel)
  obtain ⟨H, eH⟩ : ∃ H : Heap, H = H0 := ⟨_, rfl⟩
  rw [← eH] at hP ⊢
  have hS : va_S A H0 H [] := by rw [eH]; exact hS
  have hP : va_P (gD g) vwCl [(h, .inr (3, [.int (th), .int (nI lc), .ref (X 0), .ref (X 1), .int (nI ec), .ref (X 2), .ref (X 3), .ref (X 4), .ref (X 5), .ref (X 6), .ref (X 7), .ref (X 8)])), (X 0, .inl (gI g, 12, .inl (V 0))), (X 1, .inl (gI g, 480, .inl (V 1))), (X 2, .inl (gI g, 24, .inl (V 2))), (X 3, .inl (gI g, 24, .inl (V 3))), (X 4, .inl (gI g, 24, .inl (V 4))), (X 5, .inl (gI g, 192, .inl (V 5))), (X 6, .inl (gI g, 24, .inl (V 6))), (X 7, .inl (gI g, 24, .inl (V 7))), (X 8, .inl (gI g, 24, .inl (V 8)))] H := hP
  have hD : va_D A [(h, .inr (3, [.int (th), .int (nI lc), .ref (X 0), .ref (X 1), .int (nI ec), .ref (X 2), .ref (X 3), .ref (X 4), .ref (X 5), .ref (X 6), .ref (X 7), .ref (X 8)])), (X 0, .inl (gI g, 12, .inl (V 0))), (X 1, .inl (gI g, 480, .inl (V 1))), (X 2, .inl (gI g, 24, .inl (V 2))), (X 3, .inl (gI g, 24, .inl (V 3))), (X 4, .inl (gI g, 24, .inl (V 4))), (X 5, .inl (gI g, 192, .inl (V 5))), (X 6, .inl (gI g, 24, .inl (V 6))), (X 7, .inl (gI g, 24, .inl (V 7))), (X 8, .inl (gI g, 24, .inl (V 8)))] := hD
  refine lv_aload_n hx hb dX3_wouldSeal_0 rfl (lv_at hl 0 rfl) ?_
  refine lv_iconst (v := 0) hx hb dX3_wouldSeal_1 (by decide +kernel) ?_
  refine va_put (D := gD g) (ci := 3) (v := .int (0)) (ty := .int) (C := RX3) (T := TX3) (N := 12) hx hb hts iX3 tyX3 tyX3_ok nmX3 hown hK.1 hP hD hS 0 rfl rfl 0 (by decide) f37 (fun _ h9 => h9) rfl (by decide +kernel) rfl rfl (Nat.le_of_ble_eq_true rfl) dX3_wouldSeal_2 (fun H locs hP hD hS => ?_)
  have hP : va_P (gD g) vwCl [(h, .inr (3, [.int (0), .int (nI lc), .ref (X 0), .ref (X 1), .int (nI ec), .ref (X 2), .ref (X 3), .ref (X 4), .ref (X 5), .ref (X 6), .ref (X 7), .ref (X 8)])), (X 0, .inl (gI g, 12, .inl (V 0))), (X 1, .inl (gI g, 480, .inl (V 1))), (X 2, .inl (gI g, 24, .inl (V 2))), (X 3, .inl (gI g, 24, .inl (V 3))), (X 4, .inl (gI g, 24, .inl (V 4))), (X 5, .inl (gI g, 192, .inl (V 5))), (X 6, .inl (gI g, 24, .inl (V 6))), (X 7, .inl (gI g, 24, .inl (V 7))), (X 8, .inl (gI g, 24, .inl (V 8)))] H := hP
  have hD : va_D A [(h, .inr (3, [.int (0), .int (nI lc), .ref (X 0), .ref (X 1), .int (nI ec), .ref (X 2), .ref (X 3), .ref (X 4), .ref (X 5), .ref (X 6), .ref (X 7), .ref (X 8)])), (X 0, .inl (gI g, 12, .inl (V 0))), (X 1, .inl (gI g, 480, .inl (V 1))), (X 2, .inl (gI g, 24, .inl (V 2))), (X 3, .inl (gI g, 24, .inl (V 3))), (X 4, .inl (gI g, 24, .inl (V 4))), (X 5, .inl (gI g, 192, .inl (V 5))), (X 6, .inl (gI g, 24, .inl (V 6))), (X 7, .inl (gI g, 24, .inl (V 7))), (X 8, .inl (gI g, 24, .inl (V 8)))] := hD
  refine lv_aload_n hx hb dX3_wouldSeal_5 rfl (lv_at hl 0 rfl) ?_
  refine lv_iload_n hx hb dX3_wouldSeal_6 rfl (lv_at hl 1 rfl) ?_
  refine p_V (As := [.int (nI k)]) (rest := []) S (c_X3_isLetter l g h X V 0 lc ec (nI k) hlc hec) (cwV 1 hts gX3_wouldSeal_X3_isLetter rfl rfl rfl (by decide +kernel) ⟨Nat.le_of_ble_eq_true rfl, Nat.le_of_ble_eq_true rfl⟩) hK (va_recv hK.1 hP (ci := 3) (q0 := 0) rfl rfl) (hP) rfl hl.1 rfl (Nat.le_of_ble_eq_true rfl) dX3_wouldSeal_7 ⟨Nat.le_of_ble_eq_true rfl, Nat.le_of_ble_eq_true rfl⟩ ?_
  refine br_neB (tgt := 19) hx hb dX3_wouldSeal_10 (by decide) (fun c10 => ?_) (fun c10 => ?_)
  · refine lv_aload_n hx hb dX3_wouldSeal_19 rfl (lv_at hl 0 rfl) ?_
    refine va_get (D := gD g) (ci := 3) (v := .ref (X 0)) (C := RX3) (T := TX3) (N := 12) hx hb hts iX3 hown hK.1 hP 0 rfl rfl 2 (by decide) f9 (fun _ h9 => h9) rfl dX3_wouldSeal_20 ?_
    refine lv_iload_n hx hb dX3_wouldSeal_23 rfl (lv_at hl 1 rfl) ?_
    refine ld_I (k := k) (n := 12) (f := V 0) hx hb hK.1 hP 1 rfl (by omega) (by omega) dX3_wouldSeal_24 ?_
    refine lv_toI (z := nI (NN k)) (hVn) ?_
    refine br_ne0 (a := NN k) (tgt := 36) hx hb (by omega) dX3_wouldSeal_25 (by decide) (fun c25 => ?_) (fun c25 => ?_)
    · omega
    · refine lv_aload_n hx hb dX3_wouldSeal_28 rfl (lv_at hl 0 rfl) ?_
      refine lv_iconst (v := 2) hx hb dX3_wouldSeal_29 (by decide +kernel) ?_
      refine w_V (As := [.int (2)]) (rest := []) S (c_X3_no l g h X V 0 lc ec (2)) (cwV 1 hts gX3_wouldSeal_X3_no rfl rfl rfl (by decide +kernel) ⟨Nat.le_of_ble_eq_true rfl, Nat.le_of_ble_eq_true rfl⟩) hK (va_recv hK.1 hP (ci := 3) (q0 := 0) rfl rfl) hP (hD.weaken (fun _ _ _ _ => trivial)) hS (wA_D hD [0, 1, 2, 3, 4, 5, 6, 7, 8, 9] rfl) rfl hl.1 rfl (Nat.le_of_ble_eq_true rfl) dX3_wouldSeal_30 ⟨Nat.le_of_ble_eq_true rfl, Nat.le_of_ble_eq_true rfl⟩ (fun H locs hP1 hz1 hk1 hS => ?_)
      have hP : va_P (gD g) vwCl [(h, .inr (3, [.int (2), .int (nI lc), .ref (X 0), .ref (X 1), .int (nI ec), .ref (X 2), .ref (X 3), .ref (X 4), .ref (X 5), .ref (X 6), .ref (X 7), .ref (X 8)])), (X 0, .inl (gI g, 12, .inl (V 0))), (X 1, .inl (gI g, 480, .inl (V 1))), (X 2, .inl (gI g, 24, .inl (V 2))), (X 3, .inl (gI g, 24, .inl (V 3))), (X 4, .inl (gI g, 24, .inl (V 4))), (X 5, .inl (gI g, 192, .inl (V 5))), (X 6, .inl (gI g, 24, .inl (V 6))), (X 7, .inl (gI g, 24, .inl (V 7))), (X 8, .inl (gI g, 24, .inl (V 8)))] H := hP1
      have hD : va_D A [(h, .inr (3, [.int (2), .int (nI lc), .ref (X 0), .ref (X 1), .int (nI ec), .ref (X 2), .ref (X 3), .ref (X 4), .ref (X 5), .ref (X 6), .ref (X 7), .ref (X 8)])), (X 0, .inl (gI g, 12, .inl (V 0))), (X 1, .inl (gI g, 480, .inl (V 1))), (X 2, .inl (gI g, 24, .inl (V 2))), (X 3, .inl (gI g, 24, .inl (V 3))), (X 4, .inl (gI g, 24, .inl (V 4))), (X 5, .inl (gI g, 192, .inl (V 5))), (X 6, .inl (gI g, 24, .inl (V 6))), (X 7, .inl (gI g, 24, .inl (V 7))), (X 8, .inl (gI g, 24, .inl (V 8)))] := D_same hD rfl
      refine lv_goto (tgt := 45) hx hb dX3_wouldSeal_33 (by decide) ?_
      exact hret _ _ _ _ hP hS dX3_wouldSeal_45
  · exact absurd c10 (by rw [hgk]; decide)
