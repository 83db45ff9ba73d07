set_option maxHeartbeats 4000000 in
set_option maxRecDepth 100000 in
/-- copyLetter -/
theorem c_X3_copyLetter (l : Launch) (g : gT) (h : Nat) (X : Nat → Nat) (V : Nat → Nat → Int32) (th : Int32) (lc ec : Nat) (NN : Nat → Nat) (hlc : lc ≤ 12) (hec : ec ≤ 24) (hNN : ∀ i, i < lc → V 0 i = nI (NN i) ∧ NN i ≤ 40) (k : Nat) (hk : k < lc) (hl1 : lc < 12) : wM g l yX3_copyLetter wsX3_copyLetter { frames := 2, cells := 0, slots := 0, locals := 43 } [.ref (h), .int (nI k)] (mdW g h X V th lc ec) (some (.int (nI lc))) (mdW g h X (vup (vup V 0 (upd (V 0) lc (nI (NN k)))) 1 (va_cpy (V 1) (V 1) (40 * k) (40 * lc) 40)) 0 (lc + 1) ec) := by
  refine wr_ofI (cc := cX3_copyLetter) (maxL := 2) (by decide) rfl (Nat.le_of_ble_eq_true rfl) ?_
  intro p e s m args below meth c H0 ls A Q hx hb hml hts hown hK hP hD hS hl hret
  have hl : lv_has ls 2 [(0, .ref (h)), (1, .int (nI k))] := hl
  have S : CallFix p m c cX3_copyLetter 2 s args wsX3_copyLetter RX3 := ⟨hx, hb, hml, hown, hts⟩
  have hgk : inB (nI k) lc = true := inB_nI hk (by omega)
  have hVn := (hNN k hk).1
  have hn := (hNN k hk).2
  have iX3 : ∀ w ∈ u_ws RX3 TX3 12, w ∈ wsX3_copyLetter := by decide +kernel
  have f9 := hts (.fieldLink RX3 9 "LetterSealsModel" "many" "[I") (by decide +kernel)
  have f13 := hts (.fieldLink RX3 13 "LetterSealsModel" "sign" "[I") (by decide +kernel)
  have f37 := hts (.fieldLink RX3 37 "LetterSealsModel" "thrown" "I") (by decide +kernel)
  have f41 := hts (.fieldLink RX3 41 "LetterSealsModel" "letters" "I") (by decide +kernel)
  obtain ⟨H, eH⟩ : ∃ H : Heap, H = H0 := ⟨_, rfl⟩
  rw [← eH] at hP ⊢
  have hS : va_S A H0 H [] := by rw [eH]; exact hS
  have hP : va_P (gD g) vwCl [(h, .inr (3, [.int (th), .int (nI lc), .ref (X 0), .ref (X 1), .int (nI ec), .ref (X 2), .ref (X 3), .ref (X 4), .ref (X 5), .ref (X 6), .ref (X 7), .ref (X 8)])), (X 0, .inl (gI g, 12, .inl (V 0))), (X 1, .inl (gI g, 480, .inl (V 1))), (X 2, .inl (gI g, 24, .inl (V 2))), (X 3, .inl (gI g, 24, .inl (V 3))), (X 4, .inl (gI g, 24, .inl (V 4))), (X 5, .inl (gI g, 192, .inl (V 5))), (X 6, .inl (gI g, 24, .inl (V 6))), (X 7, .inl (gI g, 24, .inl (V 7))), (X 8, .inl (gI g, 24, .inl (V 8)))] H := hP
  have hD : va_D A [(h, .inr (3, [.int (th), .int (nI lc), .ref (X 0), .ref (X 1), .int (nI ec), .ref (X 2), .ref (X 3), .ref (X 4), .ref (X 5), .ref (X 6), .ref (X 7), .ref (X 8)])), (X 0, .inl (gI g, 12, .inl (V 0))), (X 1, .inl (gI g, 480, .inl (V 1))), (X 2, .inl (gI g, 24, .inl (V 2))), (X 3, .inl (gI g, 24, .inl (V 3))), (X 4, .inl (gI g, 24, .inl (V 4))), (X 5, .inl (gI g, 192, .inl (V 5))), (X 6, .inl (gI g, 24, .inl (V 6))), (X 7, .inl (gI g, 24, .inl (V 7))), (X 8, .inl (gI g, 24, .inl (V 8)))] := hD
  refine lv_aload_n hx hb dX3_copyLetter_0 rfl (lv_at hl 0 rfl) ?_
  refine lv_iconst (v := 0) hx hb dX3_copyLetter_1 (by decide +kernel) ?_
  refine va_put (D := gD g) (ci := 3) (v := .int (0)) (ty := .int) (C := RX3) (T := TX3) (N := 12) hx hb hts iX3 tyX3 tyX3_ok nmX3 hown hK.1 hP hD hS 0 rfl rfl 0 (by decide) f37 (fun _ h9 => h9) rfl (by decide +kernel) rfl rfl (Nat.le_of_ble_eq_true rfl) dX3_copyLetter_2 (fun H locs hP hD hS => ?_)
  have hP : va_P (gD g) vwCl [(h, .inr (3, [.int (0), .int (nI lc), .ref (X 0), .ref (X 1), .int (nI ec), .ref (X 2), .ref (X 3), .ref (X 4), .ref (X 5), .ref (X 6), .ref (X 7), .ref (X 8)])), (X 0, .inl (gI g, 12, .inl (V 0))), (X 1, .inl (gI g, 480, .inl (V 1))), (X 2, .inl (gI g, 24, .inl (V 2))), (X 3, .inl (gI g, 24, .inl (V 3))), (X 4, .inl (gI g, 24, .inl (V 4))), (X 5, .inl (gI g, 192, .inl (V 5))), (X 6, .inl (gI g, 24, .inl (V 6))), (X 7, .inl (gI g, 24, .inl (V 7))), (X 8, .inl (gI g, 24, .inl (V 8)))] H := hP
  have hD : va_D A [(h, .inr (3, [.int (0), .int (nI lc), .ref (X 0), .ref (X 1), .int (nI ec), .ref (X 2), .ref (X 3), .ref (X 4), .ref (X 5), .ref (X 6), .ref (X 7), .ref (X 8)])), (X 0, .inl (gI g, 12, .inl (V 0))), (X 1, .inl (gI g, 480, .inl (V 1))), (X 2, .inl (gI g, 24, .inl (V 2))), (X 3, .inl (gI g, 24, .inl (V 3))), (X 4, .inl (gI g, 24, .inl (V 4))), (X 5, .inl (gI g, 192, .inl (V 5))), (X 6, .inl (gI g, 24, .inl (V 6))), (X 7, .inl (gI g, 24, .inl (V 7))), (X 8, .inl (gI g, 24, .inl (V 8)))] := hD
  refine lv_aload_n hx hb dX3_copyLetter_5 rfl (lv_at hl 0 rfl) ?_
  refine lv_iload_n hx hb dX3_copyLetter_6 rfl (lv_at hl 1 rfl) ?_
  refine p_V (As := [.int (nI k)]) (rest := []) S (c_X3_isLetter l g h X V 0 lc ec (nI k) hlc hec) (cwV 1 hts gX3_copyLetter_X3_isLetter rfl rfl rfl (by decide +kernel) ⟨Nat.le_of_ble_eq_true rfl, Nat.le_of_ble_eq_true rfl⟩) hK (va_recv hK.1 hP (ci := 3) (q0 := 0) rfl rfl) (hP) rfl hl.1 rfl (Nat.le_of_ble_eq_true rfl) dX3_copyLetter_7 ⟨Nat.le_of_ble_eq_true rfl, Nat.le_of_ble_eq_true rfl⟩ ?_
  refine br_neB (tgt := 19) hx hb dX3_copyLetter_10 (by decide) (fun c10 => ?_) (fun c10 => ?_)
  · refine lv_aload_n hx hb dX3_copyLetter_19 rfl (lv_at hl 0 rfl) ?_
    refine va_get (D := gD g) (ci := 3) (v := .int (nI lc)) (C := RX3) (T := TX3) (N := 12) hx hb hts iX3 hown hK.1 hP 0 rfl rfl 1 (by decide) f41 (fun _ h9 => h9) rfl dX3_copyLetter_20 ?_
    refine lv_bipush (v := nI (12)) hx hb dX3_copyLetter_23 (by decide +kernel) ?_
    refine br_ne (a := lc) (b := 12) (tgt := 34) hx hb (by omega) (by omega) dX3_copyLetter_25 (by decide) (fun c25 => ?_) (fun c25 => ?_)
    · refine lv_aload_n hx hb dX3_copyLetter_34 rfl (lv_at hl 0 rfl) ?_
      refine va_get (D := gD g) (ci := 3) (v := .ref (X 1)) (C := RX3) (T := TX3) (N := 12) hx hb hts iX3 hown hK.1 hP 0 rfl rfl 3 (by decide) f13 (fun _ h9 => h9) rfl dX3_copyLetter_35 ?_
      refine lv_bipush (v := nI (40)) hx hb dX3_copyLetter_38 (by decide +kernel) ?_
      refine lv_iload_n hx hb dX3_copyLetter_40 rfl (lv_at hl 1 rfl) ?_
      refine lv_imul hx hb dX3_copyLetter_41 ?_
      refine lv_toI (z := nI (40 * k)) (pk_mul _ _) ?_
      refine lv_aload_n hx hb dX3_copyLetter_42 rfl (lv_at hl 0 rfl) ?_
      refine va_get (D := gD g) (ci := 3) (v := .ref (X 1)) (C := RX3) (T := TX3) (N := 12) hx hb hts iX3 hown hK.1 hP 0 rfl rfl 3 (by decide) f13 (fun _ h9 => h9) rfl dX3_copyLetter_43 ?_
      refine lv_bipush (v := nI (40)) hx hb dX3_copyLetter_46 (by decide +kernel) ?_
      refine lv_aload_n hx hb dX3_copyLetter_48 rfl (lv_at hl 0 rfl) ?_
      refine va_get (D := gD g) (ci := 3) (v := .int (nI lc)) (C := RX3) (T := TX3) (N := 12) hx hb hts iX3 hown hK.1 hP 0 rfl rfl 1 (by decide) f41 (fun _ h9 => h9) rfl dX3_copyLetter_49 ?_
      refine lv_imul hx hb dX3_copyLetter_52 ?_
      refine lv_toI (z := nI (40 * lc)) (pk_mul _ _) ?_
      refine lv_bipush (v := nI (40)) hx hb dX3_copyLetter_53 (by decide +kernel) ?_
      refine cp_I (sp := 40 * k) (dp := 40 * lc) (n := 40) (rest := []) hx hb (hml.trans hl.1.symm) hown (hts (.methodLink RX3 67 arraycopyName) (by decide +kernel)) (hts (.native arraycopyName) (by decide +kernel)) (hts (.static arraycopyName) (by decide +kernel)) (hts (.initialized "java/lang/System") (by decide +kernel)) hK.1 hP hD hS 2 rfl (by omega) (by omega) (by omega) (Nat.le_of_ble_eq_true rfl) (Nat.le_of_ble_eq_true rfl) dX3_copyLetter_55 (fun H locs hP hD hS => ?_)
      have hP : va_P (gD g) vwCl [(h, .inr (3, [.int (0), .int (nI lc), .ref (X 0), .ref (X 1), .int (nI ec), .ref (X 2), .ref (X 3), .ref (X 4), .ref (X 5), .ref (X 6), .ref (X 7), .ref (X 8)])), (X 0, .inl (gI g, 12, .inl (V 0))), (X 1, .inl (gI g, 480, .inl (va_cpy (V 1) (V 1) (40 * k) (40 * lc) (40)))), (X 2, .inl (gI g, 24, .inl (V 2))), (X 3, .inl (gI g, 24, .inl (V 3))), (X 4, .inl (gI g, 24, .inl (V 4))), (X 5, .inl (gI g, 192, .inl (V 5))), (X 6, .inl (gI g, 24, .inl (V 6))), (X 7, .inl (gI g, 24, .inl (V 7))), (X 8, .inl (gI g, 24, .inl (V 8)))] H := hP
      have hD : va_D A [(h, .inr (3, [.int (0), .int (nI lc), .ref (X 0), .ref (X 1), .int (nI ec), .ref (X 2), .ref (X 3), .ref (X 4), .ref (X 5), .ref (X 6), .ref (X 7), .ref (X 8)])), (X 0, .inl (gI g, 12, .inl (V 0))), (X 1, .inl (gI g, 480, .inl (va_cpy (V 1) (V 1) (40 * k) (40 * lc) (40)))), (X 2, .inl (gI g, 24, .inl (V 2))), (X 3, .inl (gI g, 24, .inl (V 3))), (X 4, .inl (gI g, 24, .inl (V 4))), (X 5, .inl (gI g, 192, .inl (V 5))), (X 6, .inl (gI g, 24, .inl (V 6))), (X 7, .inl (gI g, 24, .inl (V 7))), (X 8, .inl (gI g, 24, .inl (V 8)))] := hD
      refine lv_aload_n hx hb dX3_copyLetter_58 rfl (lv_at hl 0 rfl) ?_
      refine va_get (D := gD g) (ci := 3) (v := .ref (X 0)) (C := RX3) (T := TX3) (N := 12) hx hb hts iX3 hown hK.1 hP 0 rfl rfl 2 (by decide) f9 (fun _ h9 => h9) rfl dX3_copyLetter_59 ?_
      refine lv_aload_n hx hb dX3_copyLetter_62 rfl (lv_at hl 0 rfl) ?_
      refine va_get (D := gD g) (ci := 3) (v := .int (nI lc)) (C := RX3) (T := TX3) (N := 12) hx hb hts iX3 hown hK.1 hP 0 rfl rfl 1 (by decide) f41 (fun _ h9 => h9) rfl dX3_copyLetter_63 ?_
      refine lv_aload_n hx hb dX3_copyLetter_66 rfl (lv_at hl 0 rfl) ?_
      refine va_get (D := gD g) (ci := 3) (v := .ref (X 0)) (C := RX3) (T := TX3) (N := 12) hx hb hts iX3 hown hK.1 hP 0 rfl rfl 2 (by decide) f9 (fun _ h9 => h9) rfl dX3_copyLetter_67 ?_
      refine lv_iload_n hx hb dX3_copyLetter_70 rfl (lv_at hl 1 rfl) ?_
      refine ld_I (k := k) (n := 12) (f := V 0) hx hb hK.1 hP 1 rfl (by omega) (by omega) dX3_copyLetter_71 ?_
      refine lv_toI (z := nI (NN k)) (hVn) ?_
      refine st_I (k := lc) (n := 12) (f := V 0) (x := nI (NN k)) hx hb hK.1 hP hD hS 1 rfl (by omega) (by omega) dX3_copyLetter_72 (fun H locs hP hD hS => ?_)
      have hP : va_P (gD g) vwCl [(h, .inr (3, [.int (0), .int (nI lc), .ref (X 0), .ref (X 1), .int (nI ec), .ref (X 2), .ref (X 3), .ref (X 4), .ref (X 5), .ref (X 6), .ref (X 7), .ref (X 8)])), (X 0, .inl (gI g, 12, .inl (upd (V 0) (lc) (nI (NN k))))), (X 1, .inl (gI g, 480, .inl (va_cpy (V 1) (V 1) (40 * k) (40 * lc) (40)))), (X 2, .inl (gI g, 24, .inl (V 2))), (X 3, .inl (gI g, 24, .inl (V 3))), (X 4, .inl (gI g, 24, .inl (V 4))), (X 5, .inl (gI g, 192, .inl (V 5))), (X 6, .inl (gI g, 24, .inl (V 6))), (X 7, .inl (gI g, 24, .inl (V 7))), (X 8, .inl (gI g, 24, .inl (V 8)))] H := hP
      have hD : va_D A [(h, .inr (3, [.int (0), .int (nI lc), .ref (X 0), .ref (X 1), .int (nI ec), .ref (X 2), .ref (X 3), .ref (X 4), .ref (X 5), .ref (X 6), .ref (X 7), .ref (X 8)])), (X 0, .inl (gI g, 12, .inl (upd (V 0) (lc) (nI (NN k))))), (X 1, .inl (gI g, 480, .inl (va_cpy (V 1) (V 1) (40 * k) (40 * lc) (40)))), (X 2, .inl (gI g, 24, .inl (V 2))), (X 3, .inl (gI g, 24, .inl (V 3))), (X 4, .inl (gI g, 24, .inl (V 4))), (X 5, .inl (gI g, 192, .inl (V 5))), (X 6, .inl (gI g, 24, .inl (V 6))), (X 7, .inl (gI g, 24, .inl (V 7))), (X 8, .inl (gI g, 24, .inl (V 8)))] := hD
      refine lv_aload_n hx hb dX3_copyLetter_73 rfl (lv_at hl 0 rfl) ?_
      refine lv_dup hx hb dX3_copyLetter_74 rfl ?_
      refine va_get (D := gD g) (ci := 3) (v := .int (nI lc)) (C := RX3) (T := TX3) (N := 12) hx hb hts iX3 hown hK.1 hP 0 rfl rfl 1 (by decide) f41 (fun _ h9 => h9) rfl dX3_copyLetter_75 ?_
      refine lv_iconst (v := nI (1)) hx hb dX3_copyLetter_78 (by decide +kernel) ?_
      refine lv_iadd hx hb dX3_copyLetter_79 ?_
      refine lv_toI (z := nI (lc + 1)) (nI_add _ _) ?_
      refine va_put (D := gD g) (ci := 3) (v := .int (nI (lc + 1))) (ty := .int) (C := RX3) (T := TX3) (N := 12) hx hb hts iX3 tyX3 tyX3_ok nmX3 hown hK.1 hP hD hS 0 rfl rfl 1 (by decide) f41 (fun _ h9 => h9) rfl (by decide +kernel) rfl rfl (Nat.le_of_ble_eq_true rfl) dX3_copyLetter_80 (fun H locs hP hD hS => ?_)
      have hP : va_P (gD g) vwCl [(h, .inr (3, [.int (0), .int (nI (lc + 1)), .ref (X 0), .ref (X 1), .int (nI ec), .ref (X 2), .ref (X 3), .ref (X 4), .ref (X 5), .ref (X 6), .ref (X 7), .ref (X 8)])), (X 0, .inl (gI g, 12, .inl (upd (V 0) (lc) (nI (NN k))))), (X 1, .inl (gI g, 480, .inl (va_cpy (V 1) (V 1) (40 * k) (40 * lc) (40)))), (X 2, .inl (gI g, 24, .inl (V 2))), (X 3, .inl (gI g, 24, .inl (V 3))), (X 4, .inl (gI g, 24, .inl (V 4))), (X 5, .inl (gI g, 192, .inl (V 5))), (X 6, .inl (gI g, 24, .inl (V 6))), (X 7, .inl (gI g, 24, .inl (V 7))), (X 8, .inl (gI g, 24, .inl (V 8)))] H := hP
      have hD : va_D A [(h, .inr (3, [.int (0), .int (nI (lc + 1)), .ref (X 0), .ref (X 1), .int (nI ec), .ref (X 2), .ref (X 3), .ref (X 4), .ref (X 5), .ref (X 6), .ref (X 7), .ref (X 8)])), (X 0, .inl (gI g, 12, .inl (upd (V 0) (lc) (nI (NN k))))), (X 1, .inl (gI g, 480, .inl (va_cpy (V 1) (V 1) (40 * k) (40 * lc) (40)))), (X 2, .inl (gI g, 24, .inl (V 2))), (X 3, .inl (gI g, 24, .inl (V 3))), (X 4, .inl (gI g, 24, .inl (V 4))), (X 5, .inl (gI g, 192, .inl (V 5))), (X 6, .inl (gI g, 24, .inl (V 6))), (X 7, .inl (gI g, 24, .inl (V 7))), (X 8, .inl (gI g, 24, .inl (V 8)))] := hD
      refine lv_aload_n hx hb dX3_copyLetter_83 rfl (lv_at hl 0 rfl) ?_
      refine va_get (D := gD g) (ci := 3) (v := .int (nI (lc + 1))) (C := RX3) (T := TX3) (N := 12) hx hb hts iX3 hown hK.1 hP 0 rfl rfl 1 (by decide) f41 (fun _ h9 => h9) rfl dX3_copyLetter_84 ?_
      refine lv_iconst (v := nI (1)) hx hb dX3_copyLetter_87 (by decide +kernel) ?_
      refine lv_isub hx hb dX3_copyLetter_88 ?_
      refine lv_toI (z := nI (lc + 1 - 1)) (pk_sub (by omega)) ?_
      refine lv_toI (z := nI lc) (by rw [Nat.add_sub_cancel]) ?_
      exact hret _ _ _ _ hP hS dX3_copyLetter_89
    · omega
  · exact absurd c10 (by rw [hgk]; decide)

set_option maxHeartbeats 4000000 in
set_option maxRecDepth 100000 in
/-- copyLetter_1 -/
theorem c_X3_copyLetter_1 (l : Launch) (g : gT) (h : Nat) (X : Nat → Nat) (V : Nat → Nat → Int32) (th : Int32) (lc ec : Nat) (hlc : lc ≤ 12) (hec : ec ≤ 24) (x : Int32) (hxb : inB x lc = false) : wM g l yX3_copyLetter wsX3_copyLetter { frames := 2, cells := 0, slots := 0, locals := 43 } [.ref (h), .int (x)] (mdW g h X V th lc ec) (some (.int (0))) (mdW g h X V 1 lc ec) := by
  refine wr_ofI (cc := cX3_copyLetter) (maxL := 2) (by decide) rfl (Nat.le_of_ble_eq_true rfl) ?_
  intro p e s m args below meth c H0 ls A Q hx hb hml hts hown hK hP hD hS hl hret
  have hl : lv_has ls 2 [(0, .ref (h)), (1, .int (x))] := hl
  have S : CallFix p m c cX3_copyLetter 2 s args wsX3_copyLetter RX3 := ⟨hx, hb, hml, hown, hts⟩
  have iX3 : ∀ w ∈ u_ws RX3 TX3 12, w ∈ wsX3_copyLetter := by decide +kernel
  have f37 := hts (.fieldLink RX3 37 "LetterSealsModel" "thrown" "I") (by decide +kernel)
  obtain ⟨H, eH⟩ : ∃ H : Heap, H = H0 := ⟨_, rfl⟩
  rw [← eH] at hP ⊢
  have hS : va_S A H0 H [] := by rw [eH]; exact hS
  have hP : va_P (gD g) vwCl [(h, .inr (3, [.int (th), .int (nI lc), .ref (X 0), .ref (X 1), .int (nI ec), .ref (X 2), .ref (X 3), .ref (X 4), .ref (X 5), .ref (X 6), .ref (X 7), .ref (X 8)])), (X 0, .inl (gI g, 12, .inl (V 0))), (X 1, .inl (gI g, 480, .inl (V 1))), (X 2, .inl (gI g, 24, .inl (V 2))), (X 3, .inl (gI g, 24, .inl (V 3))), (X 4, .inl (gI g, 24, .inl (V 4))), (X 5, .inl (gI g, 192, .inl (V 5))), (X 6, .inl (gI g, 24, .inl (V 6))), (X 7, .inl (gI g, 24, .inl (V 7))), (X 8, .inl (gI g, 24, .inl (V 8)))] H := hP
  have hD : va_D A [(h, .inr (3, [.int (th), .int (nI lc), .ref (X 0), .ref (X 1), .int (nI ec), .ref (X 2), .ref (X 3), .ref (X 4), .ref (X 5), .ref (X 6), .ref (X 7), .ref (X 8)])), (X 0, .inl (gI g, 12, .inl (V 0))), (X 1, .inl (gI g, 480, .inl (V 1))), (X 2, .inl (gI g, 24, .inl (V 2))), (X 3, .inl (gI g, 24, .inl (V 3))), (X 4, .inl (gI g, 24, .inl (V 4))), (X 5, .inl (gI g, 192, .inl (V 5))), (X 6, .inl (gI g, 24, .inl (V 6))), (X 7, .inl (gI g, 24, .inl (V 7))), (X 8, .inl (gI g, 24, .inl (V 8)))] := hD
  refine lv_aload_n hx hb dX3_copyLetter_0 rfl (lv_at hl 0 rfl) ?_
  refine lv_iconst (v := 0) hx hb dX3_copyLetter_1 (by decide +kernel) ?_
  refine va_put (D := gD g) (ci := 3) (v := .int (0)) (ty := .int) (C := RX3) (T := TX3) (N := 12) hx hb hts iX3 tyX3 tyX3_ok nmX3 hown hK.1 hP hD hS 0 rfl rfl 0 (by decide) f37 (fun _ h9 => h9) rfl (by decide +kernel) rfl rfl (Nat.le_of_ble_eq_true rfl) dX3_copyLetter_2 (fun H locs hP hD hS => ?_)
  have hP : va_P (gD g) vwCl [(h, .inr (3, [.int (0), .int (nI lc), .ref (X 0), .ref (X 1), .int (nI ec), .ref (X 2), .ref (X 3), .ref (X 4), .ref (X 5), .ref (X 6), .ref (X 7), .ref (X 8)])), (X 0, .inl (gI g, 12, .inl (V 0))), (X 1, .inl (gI g, 480, .inl (V 1))), (X 2, .inl (gI g, 24, .inl (V 2))), (X 3, .inl (gI g, 24, .inl (V 3))), (X 4, .inl (gI g, 24, .inl (V 4))), (X 5, .inl (gI g, 192, .inl (V 5))), (X 6, .inl (gI g, 24, .inl (V 6))), (X 7, .inl (gI g, 24, .inl (V 7))), (X 8, .inl (gI g, 24, .inl (V 8)))] H := hP
  have hD : va_D A [(h, .inr (3, [.int (0), .int (nI lc), .ref (X 0), .ref (X 1), .int (nI ec), .ref (X 2), .ref (X 3), .ref (X 4), .ref (X 5), .ref (X 6), .ref (X 7), .ref (X 8)])), (X 0, .inl (gI g, 12, .inl (V 0))), (X 1, .inl (gI g, 480, .inl (V 1))), (X 2, .inl (gI g, 24, .inl (V 2))), (X 3, .inl (gI g, 24, .inl (V 3))), (X 4, .inl (gI g, 24, .inl (V 4))), (X 5, .inl (gI g, 192, .inl (V 5))), (X 6, .inl (gI g, 24, .inl (V 6))), (X 7, .inl (gI g, 24, .inl (V 7))), (X 8, .inl (gI g, 24, .inl (V 8)))] := hD
  refine lv_aload_n hx hb dX3_copyLetter_5 rfl (lv_at hl 0 rfl) ?_
  refine lv_iload_n hx hb dX3_copyLetter_6 rfl (lv_at hl 1 rfl) ?_
  refine p_V (As := [.int (x)]) (rest := []) S (c_X3_isLetter l g h X V 0 lc ec (x) hlc hec) (cwV 1 hts gX3_copyLetter_X3_isLetter rfl rfl rfl (by decide +kernel) ⟨Nat.le_of_ble_eq_true rfl, Nat.le_of_ble_eq_true rfl⟩) hK (va_recv hK.1 hP (ci := 3) (q0 := 0) rfl rfl) (hP) rfl hl.1 rfl (Nat.le_of_ble_eq_true rfl) dX3_copyLetter_7 ⟨Nat.le_of_ble_eq_true rfl, Nat.le_of_ble_eq_true rfl⟩ ?_
  refine br_neB (tgt := 19) hx hb dX3_copyLetter_10 (by decide) (fun c10 => ?_) (fun c10 => ?_)
  · exact absurd c10 (by rw [hxb]; decide)
  · refine lv_aload_n hx hb dX3_copyLetter_13 rfl (lv_at hl 0 rfl) ?_
    refine lv_iconst (v := 1) hx hb dX3_copyLetter_14 (by decide +kernel) ?_
    refine w_V (As := [.int (1)]) (rest := []) S (c_X3_no l g h X V 0 lc ec (1)) (cwV 1 hts gX3_copyLetter_X3_no rfl rfl rfl (by decide +kernel) ⟨Nat.le_of_ble_eq_true rfl, Nat.le_of_ble_eq_true rfl⟩) hK (va_recv hK.1 hP (ci := 3) (q0 := 0) rfl rfl) hP (hD.weaken (fun _ _ _ _ => trivial)) hS (wA_D hD [0, 1, 2, 3, 4, 5, 6, 7, 8, 9] rfl) rfl hl.1 rfl (Nat.le_of_ble_eq_true rfl) dX3_copyLetter_15 ⟨Nat.le_of_ble_eq_true rfl, Nat.le_of_ble_eq_true rfl⟩ (fun H locs hP1 hz1 hk1 hS => ?_)
    have hP : va_P (gD g) vwCl [(h, .inr (3, [.int (1), .int (nI lc), .ref (X 0), .ref (X 1), .int (nI ec), .ref (X 2), .ref (X 3), .ref (X 4), .ref (X 5), .ref (X 6), .ref (X 7), .ref (X 8)])), (X 0, .inl (gI g, 12, .inl (V 0))), (X 1, .inl (gI g, 480, .inl (V 1))), (X 2, .inl (gI g, 24, .inl (V 2))), (X 3, .inl (gI g, 24, .inl (V 3))), (X 4, .inl (gI g, 24, .inl (V 4))), (X 5, .inl (gI g, 192, .inl (V 5))), (X 6, .inl (gI g, 24, .inl (V 6))), (X 7, .inl (gI g, 24, .inl (V 7))), (X 8, .inl (gI g, 24, .inl (V 8)))] H := hP1
    have hD : va_D A [(h, .inr (3, [.int (1), .int (nI lc), .ref (X 0), .ref (X 1), .int (nI ec), .ref (X 2), .ref (X 3), .ref (X 4), .ref (X 5), .ref (X 6), .ref (X 7), .ref (X 8)])), (X 0, .inl (gI g, 12, .inl (V 0))), (X 1, .inl (gI g, 480, .inl (V 1))), (X 2, .inl (gI g, 24, .inl (V 2))), (X 3, .inl (gI g, 24, .inl (V 3))), (X 4, .inl (gI g, 24, .inl (V 4))), (X 5, .inl (gI g, 192, .inl (V 5))), (X 6, .inl (gI g, 24, .inl (V 6))), (X 7, .inl (gI g, 24, .inl (V 7))), (X 8, .inl (gI g, 24, .inl (V 8)))] := D_same hD rfl
    exact hret _ _ _ _ hP hS dX3_copyLetter_18

set_option maxHeartbeats 4000000 in
set_option maxRecDepth 100000 in
/-- copyLetter_2 -/
theorem c_X3_copyLetter_2 (l : Launch) (g : gT) (h : Nat) (X : Nat → Nat) (V : Nat → Nat → Int32) (th : Int32) (lc ec : Nat) (NN : Nat → Nat) (hlc : lc ≤ 12) (hec : ec ≤ 24) (hNN : ∀ i, i < lc → V 0 i = nI (NN i) ∧ NN i ≤ 40) (k : Nat) (hk : k < lc) (hl1 : lc = 12) : wM g l yX3_copyLetter wsX3_copyLetter { frames := 2, cells := 0, slots := 0, locals := 43 } [.ref (h), .int (nI k)] (mdW g h X V th lc ec) (some (.int (0))) (mdW g h X V 2 lc ec) := by
  refine wr_ofI (cc := cX3_copyLetter) (maxL := 2) (by decide) rfl (Nat.le_of_ble_eq_true rfl) ?_
  intro p e s m args below meth c H0 ls A Q hx hb hml hts hown hK hP hD hS hl hret
  have hl : lv_has ls 2 [(0, .ref (h)), (1, .int (nI k))] := hl
  have S : CallFix p m c cX3_copyLetter 2 s args wsX3_copyLetter RX3 := ⟨hx, hb, hml, hown, hts⟩
  have hgk : inB (nI k) lc = true := inB_nI hk (by omega)
  have hVn := (hNN k hk).1
  have hn := (hNN k hk).2
  have iX3 : ∀ w ∈ u_ws RX3 TX3 12, w ∈ wsX3_copyLetter := by decide +kernel
  have f37 := hts (.fieldLink RX3 37 "LetterSealsModel" "thrown" "I") (by decide +kernel)
  have f41 := hts (.fieldLink RX3 41 "LetterSealsModel" "letters" "I") (by decide +kernel)
  obtain ⟨H, eH⟩ : ∃ H : Heap, H = H0 := ⟨_, rfl⟩
  rw [← eH] at hP ⊢
  have hS : va_S A H0 H [] := by rw [eH]; exact hS
  have hP : va_P (gD g) vwCl [(h, .inr (3, [.int (th), .int (nI lc), .ref (X 0), .ref (X 1), .int (nI ec), .ref (X 2), .ref (X 3), .ref (X 4), .ref (X 5), .ref (X 6), .ref (X 7), .ref (X 8)])), (X 0, .inl (gI g, 12, .inl (V 0))), (X 1, .inl (gI g, 480, .inl (V 1))), (X 2, .inl (gI g, 24, .inl (V 2))), (X 3, .inl (gI g, 24, .inl (V 3))), (X 4, .inl (gI g, 24, .inl (V 4))), (X 5, .inl (gI g, 192, .inl (V 5))), (X 6, .inl (gI g, 24, .inl (V 6))), (X 7, .inl (gI g, 24, .inl (V 7))), (X 8, .inl (gI g, 24, .inl (V 8)))] H := hP
  have hD : va_D A [(h, .inr (3, [.int (th), .int (nI lc), .ref (X 0), .ref (X 1), .int (nI ec), .ref (X 2), .ref (X 3), .ref (X 4), .ref (X 5), .ref (X 6), .ref (X 7), .ref (X 8)])), (X 0, .inl (gI g, 12, .inl (V 0))), (X 1, .inl (gI g, 480, .inl (V 1))), (X 2, .inl (gI g, 24, .inl (V 2))), (X 3, .inl (gI g, 24, .inl (V 3))), (X 4, .inl (gI g, 24, .inl (V 4))), (X 5, .inl (gI g, 192, .inl (V 5))), (X 6, .inl (gI g, 24, .inl (V 6))), (X 7, .inl (gI g, 24, .inl (V 7))), (X 8, .inl (gI g, 24, .inl (V 8)))] := hD
  refine lv_aload_n hx hb dX3_copyLetter_0 rfl (lv_at hl 0 rfl) ?_
  refine lv_iconst (v := 0) hx hb dX3_copyLetter_1 (by decide +kernel) ?_
  refine va_put (D := gD g) (ci := 3) (v := .int (0)) (ty := .int) (C := RX3) (T := TX3) (N := 12) hx hb hts iX3 tyX3 tyX3_ok nmX3 hown hK.1 hP hD hS 0 rfl rfl 0 (by decide) f37 (fun _ h9 => h9) rfl (by decide +kernel) rfl rfl (Nat.le_of_ble_eq_true rfl) dX3_copyLetter_2 (fun H locs hP hD hS => ?_)
  have hP : va_P (gD g) vwCl [(h, .inr (3, [.int (0), .int (nI lc), .ref (X 0), .ref (X 1), .int (nI ec), .ref (X 2), .ref (X 3), .ref (X 4), .ref (X 5), .ref (X 6), .ref (X 7), .ref (X 8)])), (X 0, .inl (gI g, 12, .inl (V 0))), (X 1, .inl (gI g, 480, .inl (V 1))), (X 2, .inl (gI g, 24, .inl (V 2))), (X 3, .inl (gI g, 24, .inl (V 3))), (X 4, .inl (gI g, 24, .inl (V 4))), (X 5, .inl (gI g, 192, .inl (V 5))), (X 6, .inl (gI g, 24, .inl (V 6))), (X 7, .inl (gI g, 24, .inl (V 7))), (X 8, .inl (gI g, 24, .inl (V 8)))] H := hP
  have hD : va_D A [(h, .inr (3, [.int (0), .int (nI lc), .ref (X 0), .ref (X 1), .int (nI ec), .ref (X 2), .ref (X 3), .ref (X 4), .ref (X 5), .ref (X 6), .ref (X 7), .ref (X 8)])), (X 0, .inl (gI g, 12, .inl (V 0))), (X 1, .inl (gI g, 480, .inl (V 1))), (X 2, .inl (gI g, 24, .inl (V 2))), (X 3, .inl (gI g, 24, .inl (V 3))), (X 4, .inl (gI g, 24, .inl (V 4))), (X 5, .inl (gI g, 192, .inl (V 5))), (X 6, .inl (gI g, 24, .inl (V 6))), (X 7, .inl (gI g, 24, .inl (V 7))), (X 8, .inl (gI g, 24, .inl (V 8)))] := hD
  refine lv_aload_n hx hb dX3_copyLetter_5 rfl (lv_at hl 0 rfl) ?_
  refine lv_iload_n hx hb dX3_copyLetter_6 rfl (lv_at hl 1 rfl) ?_
  refine p_V (As := [.int (nI k)]) (rest := []) S (c_X3_isLetter l g h X V 0 lc ec (nI k) hlc hec) (cwV 1 hts gX3_copyLetter_X3_isLetter rfl rfl rfl (by decide +kernel) ⟨Nat.le_of_ble_eq_true rfl, Nat.le_of_ble_eq_true rfl⟩) hK (va_recv hK.1 hP (ci := 3) (q0 := 0) rfl rfl) (hP) rfl hl.1 rfl (Nat.le_of_ble_eq_true rfl) dX3_copyLetter_7 ⟨Nat.le_of_ble_eq_true rfl, Nat.le_of_ble_eq_true rfl⟩ ?_
  refine br_neB (tgt := 19) hx hb dX3_copyLetter_10 (by decide) (fun c10 => ?_) (fun c10 => ?_)
  · refine lv_aload_n hx hb dX3_copyLetter_19 rfl (lv_at hl 0 rfl) ?_
    refine va_get (D := gD g) (ci := 3) (v := .int (nI lc)) (C := RX3) (T := TX3) (N := 12) hx hb hts iX3 hown hK.1 hP 0 rfl rfl 1 (by decide) f41 (fun _ h9 => h9) rfl dX3_copyLetter_20 ?_
    refine lv_bipush (v := nI (12)) hx hb dX3_copyLetter_23 (by decide +kernel) ?_
    refine br_ne (a := lc) (b := 12) (tgt := 34) hx hb (by omega) (by omega) dX3_copyLetter_25 (by decide) (fun c25 => ?_) (fun c25 => ?_)
    · omega
    · refine lv_aload_n hx hb dX3_copyLetter_28 rfl (lv_at hl 0 rfl) ?_
      refine lv_iconst (v := 2) hx hb dX3_copyLetter_29 (by decide +kernel) ?_
      refine w_V (As := [.int (2)]) (rest := []) S (c_X3_no l g h X V 0 lc ec (2)) (cwV 1 hts gX3_copyLetter_X3_no rfl rfl rfl (by decide +kernel) ⟨Nat.le_of_ble_eq_true rfl, Nat.le_of_ble_eq_true rfl⟩) hK (va_recv hK.1 hP (ci := 3) (q0 := 0) rfl rfl) hP (hD.weaken (fun _ _ _ _ => trivial)) hS (wA_D hD [0, 1, 2, 3, 4, 5, 6, 7, 8, 9] rfl) rfl hl.1 rfl (Nat.le_of_ble_eq_true rfl) dX3_copyLetter_30 ⟨Nat.le_of_ble_eq_true rfl, Nat.le_of_ble_eq_true rfl⟩ (fun H locs hP1 hz1 hk1 hS => ?_)
      have hP : va_P (gD g) vwCl [(h, .inr (3, [.int (2), .int (nI lc), .ref (X 0), .ref (X 1), .int (nI ec), .ref (X 2), .ref (X 3), .ref (X 4), .ref (X 5), .ref (X 6), .ref (X 7), .ref (X 8)])), (X 0, .inl (gI g, 12, .inl (V 0))), (X 1, .inl (gI g, 480, .inl (V 1))), (X 2, .inl (gI g, 24, .inl (V 2))), (X 3, .inl (gI g, 24, .inl (V 3))), (X 4, .inl (gI g, 24, .inl (V 4))), (X 5, .inl (gI g, 192, .inl (V 5))), (X 6, .inl (gI g, 24, .inl (V 6))), (X 7, .inl (gI g, 24, .inl (V 7))), (X 8, .inl (gI g, 24, .inl (V 8)))] H := hP1
      have hD : va_D A [(h, .inr (3, [.int (2), .int (nI lc), .ref (X 0), .ref (X 1), .int (nI ec), .ref (X 2), .ref (X 3), .ref (X 4), .ref (X 5), .ref (X 6), .ref (X 7), .ref (X 8)])), (X 0, .inl (gI g, 12, .inl (V 0))), (X 1, .inl (gI g, 480, .inl (V 1))), (X 2, .inl (gI g, 24, .inl (V 2))), (X 3, .inl (gI g, 24, .inl (V 3))), (X 4, .inl (gI g, 24, .inl (V 4))), (X 5, .inl (gI g, 192, .inl (V 5))), (X 6, .inl (gI g, 24, .inl (V 6))), (X 7, .inl (gI g, 24, .inl (V 7))), (X 8, .inl (gI g, 24, .inl (V 8)))] := D_same hD rfl
      exact hret _ _ _ _ hP hS dX3_copyLetter_33
  · exact absurd c10 (by rw [hgk]; decide)

set_option maxHeartbeats 4000000 in
set_option maxRecDepth 100000 in
/-- seal -/
theorem c_X3_seal (l : Launch) (g : gT) (h : Nat) (X : Nat → Nat) (V : Nat → Nat → Int32) (th : Int32) (lc ec : Nat) (NN : Nat → Nat) (hlc : lc ≤ 12) (hec : ec ≤ 24) (hNN : ∀ i, i < lc → V 0 i = nI (NN i) ∧ NN i ≤ 40) (k : Nat) (hk : k < lc) (hn1 : 0 < NN k) (he1 : ec < 24) : wM g l yX3_seal wsX3_seal { frames := 3, cells := 0, slots := 0, locals := 68 } [.ref (h), .int (nI k)] (mdW g h X V th lc ec) (some (.int (nI ec))) (mdW g h X ((vup (vup (vup (vup (vup (vup (vup V 2 (upd (V 2) ec (nI k))) 3 (upd (V 3) ec (dgF (rwV V k) (NN k)))) 4 (upd (V 4) ec (nI (NN k)))) 5 (pbF (V 5) (8 * ec) (blF (rwV V k) (NN k)) 8)) 6 (upd (V 6) ec (smF (rwV V k) (NN k)))) 7 (upd (V 7) ec (wtF (rwV V k) (NN k)))) 8 (upd (V 8) ec (slF (lsV (V 8) ec) (dgF (rwV V k) (NN k)))))) 0 lc (ec + 1)) := by
  refine wr_ofI (cc := cX3_seal) (maxL := 4) (by decide) rfl (Nat.le_of_ble_eq_true rfl) ?_
  intro p e s m args below meth c H0 ls A Q hx hb hml hts hown hK hP hD hS hl hret
  have hl : lv_has ls 4 [(0, .ref (h)), (1, .int (nI k))] := hl
  have S : CallFix p m c cX3_seal 4 s args wsX3_seal RX3 := ⟨hx, hb, hml, hown, hts⟩
  have hgk : inB (nI k) lc = true := inB_nI hk (by omega)
  have hVn := (hNN k hk).1
  have hn := (hNN k hk).2
  have iX3 : ∀ w ∈ u_ws RX3 TX3 12, w ∈ wsX3_seal := by decide +kernel
  have f9 := hts (.fieldLink RX3 9 "LetterSealsModel" "many" "[I") (by decide +kernel)
  have f16 := hts (.fieldLink RX3 16 "LetterSealsModel" "of" "[I") (by decide +kernel)
  have f19 := hts (.fieldLink RX3 19 "LetterSealsModel" "written" "[I") (by decide +kernel)
  have f22 := hts (.fieldLink RX3 22 "LetterSealsModel" "had" "[I") (by decide +kernel)
  have f25 := hts (.fieldLink RX3 25 "LetterSealsModel" "blocks" "[I") (by decide +kernel)
  have f28 := hts (.fieldLink RX3 28 "LetterSealsModel" "added" "[I") (by decide +kernel)
  have f31 := hts (.fieldLink RX3 31 "LetterSealsModel" "weighed" "[I") (by decide +kernel)
  have f34 := hts (.fieldLink RX3 34 "LetterSealsModel" "seals" "[I") (by decide +kernel)
  have f37 := hts (.fieldLink RX3 37 "LetterSealsModel" "thrown" "I") (by decide +kernel)
  have f48 := hts (.fieldLink RX3 48 "LetterSealsModel" "envelopes" "I") (by decide +kernel)
  obtain ⟨H, eH⟩ : ∃ H : Heap, H = H0 := ⟨_, rfl⟩
  rw [← eH] at hP ⊢
  have hS : va_S A H0 H [] := by rw [eH]; exact hS
  have hP : va_P (gD g) vwCl [(h, .inr (3, [.int (th), .int (nI lc), .ref (X 0), .ref (X 1), .int (nI ec), .ref (X 2), .ref (X 3), .ref (X 4), .ref (X 5), .ref (X 6), .ref (X 7), .ref (X 8)])), (X 0, .inl (gI g, 12, .inl (V 0))), (X 1, .inl (gI g, 480, .inl (V 1))), (X 2, .inl (gI g, 24, .inl (V 2))), (X 3, .inl (gI g, 24, .inl (V 3))), (X 4, .inl (gI g, 24, .inl (V 4))), (X 5, .inl (gI g, 192, .inl (V 5))), (X 6, .inl (gI g, 24, .inl (V 6))), (X 7, .inl (gI g, 24, .inl (V 7))), (X 8, .inl (gI g, 24, .inl (V 8)))] H := hP
  have hD : va_D A [(h, .inr (3, [.int (th), .int (nI lc), .ref (X 0), .ref (X 1), .int (nI ec), .ref (X 2), .ref (X 3), .ref (X 4), .ref (X 5), .ref (X 6), .ref (X 7), .ref (X 8)])), (X 0, .inl (gI g, 12, .inl (V 0))), (X 1, .inl (gI g, 480, .inl (V 1))), (X 2, .inl (gI g, 24, .inl (V 2))), (X 3, .inl (gI g, 24, .inl (V 3))), (X 4, .inl (gI g, 24, .inl (V 4))), (X 5, .inl (gI g, 192, .inl (V 5))), (X 6, .inl (gI g, 24, .inl (V 6))), (X 7, .inl (gI g, 24, .inl (V 7))), (X 8, .inl (gI g, 24, .inl (V 8)))] := hD
  refine lv_aload_n hx hb dX3_seal_0 rfl (lv_at hl 0 rfl) ?_
  refine lv_iconst (v := 0) hx hb dX3_seal_1 (by decide +kernel) ?_
  refine va_put (D := gD g) (ci := 3) (v := .int (0)) (ty := .int) (C := RX3) (T := TX3) (N := 12) hx hb hts iX3 tyX3 tyX3_ok nmX3 hown hK.1 hP hD hS 0 rfl rfl 0 (by decide) f37 (fun _ h9 => h9) rfl (by decide +kernel) rfl rfl (Nat.le_of_ble_eq_true rfl) dX3_seal_2 (fun H locs hP hD hS => ?_)
  have hP : va_P (gD g) vwCl [(h, .inr (3, [.int (0), .int (nI lc), .ref (X 0), .ref (X 1), .int (nI ec), .ref (X 2), .ref (X 3), .ref (X 4), .ref (X 5), .ref (X 6), .ref (X 7), .ref (X 8)])), (X 0, .inl (gI g, 12, .inl (V 0))), (X 1, .inl (gI g, 480, .inl (V 1))), (X 2, .inl (gI g, 24, .inl (V 2))), (X 3, .inl (gI g, 24, .inl (V 3))), (X 4, .inl (gI g, 24, .inl (V 4))), (X 5, .inl (gI g, 192, .inl (V 5))), (X 6, .inl (gI g, 24, .inl (V 6))), (X 7, .inl (gI g, 24, .inl (V 7))), (X 8, .inl (gI g, 24, .inl (V 8)))] H := hP
  have hD : va_D A [(h, .inr (3, [.int (0), .int (nI lc), .ref (X 0), .ref (X 1), .int (nI ec), .ref (X 2), .ref (X 3), .ref (X 4), .ref (X 5), .ref (X 6), .ref (X 7), .ref (X 8)])), (X 0, .inl (gI g, 12, .inl (V 0))), (X 1, .inl (gI g, 480, .inl (V 1))), (X 2, .inl (gI g, 24, .inl (V 2))), (X 3, .inl (gI g, 24, .inl (V 3))), (X 4, .inl (gI g, 24, .inl (V 4))), (X 5, .inl (gI g, 192, .inl (V 5))), (X 6, .inl (gI g, 24, .inl (V 6))), (X 7, .inl (gI g, 24, .inl (V 7))), (X 8, .inl (gI g, 24, .inl (V 8)))] := hD
  refine lv_aload_n hx hb dX3_seal_5 rfl (lv_at hl 0 rfl) ?_
  refine lv_iload_n hx hb dX3_seal_6 rfl (lv_at hl 1 rfl) ?_
  refine p_V (As := [.int (nI k)]) (rest := []) S (c_X3_isLetter l g h X V 0 lc ec (nI k) hlc hec) (cwV 1 hts gX3_seal_X3_isLetter rfl rfl rfl (by decide +kernel) ⟨Nat.le_of_ble_eq_true rfl, Nat.le_of_ble_eq_true rfl⟩) hK (va_recv hK.1 hP (ci := 3) (q0 := 0) rfl rfl) (hP) rfl hl.1 rfl (Nat.le_of_ble_eq_true rfl) dX3_seal_7 ⟨Nat.le_of_ble_eq_true rfl, Nat.le_of_ble_eq_true rfl⟩ ?_
  refine br_neB (tgt := 19) hx hb dX3_seal_10 (by decide) (fun c10 => ?_) (fun c10 => ?_)
  · refine lv_aload_n hx hb dX3_seal_19 rfl (lv_at hl 0 rfl) ?_
    refine va_get (D := gD g) (ci := 3) (v := .int (nI ec)) (C := RX3) (T := TX3) (N := 12) hx hb hts iX3 hown hK.1 hP 0 rfl rfl 4 (by decide) f48 (fun _ h9 => h9) rfl dX3_seal_20 ?_
    refine lv_bipush (v := nI (24)) hx hb dX3_seal_23 (by decide +kernel) ?_
    refine br_eq (a := ec) (b := 24) (tgt := 37) hx hb (by omega) (by omega) dX3_seal_25 (by decide) (fun c25 => ?_) (fun c25 => ?_)
    · omega
    · refine lv_aload_n hx hb dX3_seal_28 rfl (lv_at hl 0 rfl) ?_
      refine va_get (D := gD g) (ci := 3) (v := .ref (X 0)) (C := RX3) (T := TX3) (N := 12) hx hb hts iX3 hown hK.1 hP 0 rfl rfl 2 (by decide) f9 (fun _ h9 => h9) rfl dX3_seal_29 ?_
      refine lv_iload_n hx hb dX3_seal_32 rfl (lv_at hl 1 rfl) ?_
      refine ld_I (k := k) (n := 12) (f := V 0) hx hb hK.1 hP 1 rfl (by omega) (by omega) dX3_seal_33 ?_
      refine lv_toI (z := nI (NN k)) (hVn) ?_
      refine br_ne0 (a := NN k) (tgt := 43) hx hb (by omega) dX3_seal_34 (by decide) (fun c34 => ?_) (fun c34 => ?_)
      · refine lv_aload_n hx hb dX3_seal_43 rfl (lv_at hl 0 rfl) ?_
        refine va_get (D := gD g) (ci := 3) (v := .int (nI ec)) (C := RX3) (T := TX3) (N := 12) hx hb hts iX3 hown hK.1 hP 0 rfl rfl 4 (by decide) f48 (fun _ h9 => h9) rfl dX3_seal_44 ?_
        refine lv_istore_n (lv' := [(2, .int (nI ec)), (0, .ref (h)), (1, .int (nI k))]) hx hb dX3_seal_47 rfl hl (by decide) rfl (fun ls hl => ?_)
        refine lv_aload_n hx hb dX3_seal_48 rfl (lv_at hl 1 rfl) ?_
        refine va_get (D := gD g) (ci := 3) (v := .ref (X 2)) (C := RX3) (T := TX3) (N := 12) hx hb hts iX3 hown hK.1 hP 0 rfl rfl 5 (by decide) f16 (fun _ h9 => h9) rfl dX3_seal_49 ?_
        refine lv_iload_n hx hb dX3_seal_52 rfl (lv_at hl 0 rfl) ?_
        refine lv_iload_n hx hb dX3_seal_53 rfl (lv_at hl 2 rfl) ?_
        refine st_I (k := ec) (n := 24) (f := V 2) (x := nI k) hx hb hK.1 hP hD hS 3 rfl (by omega) (by omega) dX3_seal_54 (fun H locs hP hD hS => ?_)
        have hP : va_P (gD g) vwCl [(h, .inr (3, [.int (0), .int (nI lc), .ref (X 0), .ref (X 1), .int (nI ec), .ref (X 2), .ref (X 3), .ref (X 4), .ref (X 5), .ref (X 6), .ref (X 7), .ref (X 8)])), (X 0, .inl (gI g, 12, .inl (V 0))), (X 1, .inl (gI g, 480, .inl (V 1))), (X 2, .inl (gI g, 24, .inl (upd (V 2) (ec) (nI k)))), (X 3, .inl (gI g, 24, .inl (V 3))), (X 4, .inl (gI g, 24, .inl (V 4))), (X 5, .inl (gI g, 192, .inl (V 5))), (X 6, .inl (gI g, 24, .inl (V 6))), (X 7, .inl (gI g, 24, .inl (V 7))), (X 8, .inl (gI g, 24, .inl (V 8)))] H := hP
        have hD : va_D A [(h, .inr (3, [.int (0), .int (nI lc), .ref (X 0), .ref (X 1), .int (nI ec), .ref (X 2), .ref (X 3), .ref (X 4), .ref (X 5), .ref (X 6), .ref (X 7), .ref (X 8)])), (X 0, .inl (gI g, 12, .inl (V 0))), (X 1, .inl (gI g, 480, .inl (V 1))), (X 2, .inl (gI g, 24, .inl (upd (V 2) (ec) (nI k)))), (X 3, .inl (gI g, 24, .inl (V 3))), (X 4, .inl (gI g, 24, .inl (V 4))), (X 5, .inl (gI g, 192, .inl (V 5))), (X 6, .inl (gI g, 24, .inl (V 6))), (X 7, .inl (gI g, 24, .inl (V 7))), (X 8, .inl (gI g, 24, .inl (V 8)))] := hD
        refine lv_aload_n hx hb dX3_seal_55 rfl (lv_at hl 1 rfl) ?_
        refine va_get (D := gD g) (ci := 3) (v := .ref (X 3)) (C := RX3) (T := TX3) (N := 12) hx hb hts iX3 hown hK.1 hP 0 rfl rfl 6 (by decide) f19 (fun _ h9 => h9) rfl dX3_seal_56 ?_
        refine lv_iload_n hx hb dX3_seal_59 rfl (lv_at hl 0 rfl) ?_
        refine lv_aload_n hx hb dX3_seal_60 rfl (lv_at hl 1 rfl) ?_
        refine lv_iload_n hx hb dX3_seal_61 rfl (lv_at hl 2 rfl) ?_
        refine p_V (As := [.int (nI k)]) (rest := [.int (nI ec), .ref (X 3)]) S (c_X3_digestNow l g h X (vup V 2 (upd (V 2) (ec) (nI k))) 0 lc ec NN hlc hec hNN k hk) (cwV 1 hts gX3_seal_X3_digestNow rfl rfl rfl (by decide +kernel) ⟨Nat.le_of_ble_eq_true rfl, Nat.le_of_ble_eq_true rfl⟩) hK (va_recv hK.1 hP (ci := 3) (q0 := 0) rfl rfl) (hP) rfl hl.1 rfl (Nat.le_of_ble_eq_true rfl) dX3_seal_62 ⟨Nat.le_of_ble_eq_true rfl, Nat.le_of_ble_eq_true rfl⟩ ?_
        refine st_I (k := ec) (n := 24) (f := V 3) (x := dgF (rwV V k) (NN k)) hx hb hK.1 hP hD hS 4 rfl (by omega) (by omega) dX3_seal_65 (fun H locs hP hD hS => ?_)
        have hP : va_P (gD g) vwCl [(h, .inr (3, [.int (0), .int (nI lc), .ref (X 0), .ref (X 1), .int (nI ec), .ref (X 2), .ref (X 3), .ref (X 4), .ref (X 5), .ref (X 6), .ref (X 7), .ref (X 8)])), (X 0, .inl (gI g, 12, .inl (V 0))), (X 1, .inl (gI g, 480, .inl (V 1))), (X 2, .inl (gI g, 24, .inl (upd (V 2) (ec) (nI k)))), (X 3, .inl (gI g, 24, .inl (upd (V 3) (ec) (dgF (rwV V k) (NN k))))), (X 4, .inl (gI g, 24, .inl (V 4))), (X 5, .inl (gI g, 192, .inl (V 5))), (X 6, .inl (gI g, 24, .inl (V 6))), (X 7, .inl (gI g, 24, .inl (V 7))), (X 8, .inl (gI g, 24, .inl (V 8)))] H := hP
        have hD : va_D A [(h, .inr (3, [.int (0), .int (nI lc), .ref (X 0), .ref (X 1), .int (nI ec), .ref (X 2), .ref (X 3), .ref (X 4), .ref (X 5), .ref (X 6), .ref (X 7), .ref (X 8)])), (X 0, .inl (gI g, 12, .inl (V 0))), (X 1, .inl (gI g, 480, .inl (V 1))), (X 2, .inl (gI g, 24, .inl (upd (V 2) (ec) (nI k)))), (X 3, .inl (gI g, 24, .inl (upd (V 3) (ec) (dgF (rwV V k) (NN k))))), (X 4, .inl (gI g, 24, .inl (V 4))), (X 5, .inl (gI g, 192, .inl (V 5))), (X 6, .inl (gI g, 24, .inl (V 6))), (X 7, .inl (gI g, 24, .inl (V 7))), (X 8, .inl (gI g, 24, .inl (V 8)))] := hD
        refine lv_aload_n hx hb dX3_seal_66 rfl (lv_at hl 1 rfl) ?_
        refine va_get (D := gD g) (ci := 3) (v := .ref (X 4)) (C := RX3) (T := TX3) (N := 12) hx hb hts iX3 hown hK.1 hP 0 rfl rfl 7 (by decide) f22 (fun _ h9 => h9) rfl dX3_seal_67 ?_
        refine lv_iload_n hx hb dX3_seal_70 rfl (lv_at hl 0 rfl) ?_
        refine lv_aload_n hx hb dX3_seal_71 rfl (lv_at hl 1 rfl) ?_
        refine va_get (D := gD g) (ci := 3) (v := .ref (X 0)) (C := RX3) (T := TX3) (N := 12) hx hb hts iX3 hown hK.1 hP 0 rfl rfl 2 (by decide) f9 (fun _ h9 => h9) rfl dX3_seal_72 ?_
        refine lv_iload_n hx hb dX3_seal_75 rfl (lv_at hl 2 rfl) ?_
        refine ld_I (k := k) (n := 12) (f := V 0) hx hb hK.1 hP 1 rfl (by omega) (by omega) dX3_seal_76 ?_
        refine lv_toI (z := nI (NN k)) (hVn) ?_
        refine st_I (k := ec) (n := 24) (f := V 4) (x := nI (NN k)) hx hb hK.1 hP hD hS 5 rfl (by omega) (by omega) dX3_seal_77 (fun H locs hP hD hS => ?_)
        have hP : va_P (gD g) vwCl [(h, .inr (3, [.int (0), .int (nI lc), .ref (X 0), .ref (X 1), .int (nI ec), .ref (X 2), .ref (X 3), .ref (X 4), .ref (X 5), .ref (X 6), .ref (X 7), .ref (X 8)])), (X 0, .inl (gI g, 12, .inl (V 0))), (X 1, .inl (gI g, 480, .inl (V 1))), (X 2, .inl (gI g, 24, .inl (upd (V 2) (ec) (nI k)))), (X 3, .inl (gI g, 24, .inl (upd (V 3) (ec) (dgF (rwV V k) (NN k))))), (X 4, .inl (gI g, 24, .inl (upd (V 4) (ec) (nI (NN k))))), (X 5, .inl (gI g, 192, .inl (V 5))), (X 6, .inl (gI g, 24, .inl (V 6))), (X 7, .inl (gI g, 24, .inl (V 7))), (X 8, .inl (gI g, 24, .inl (V 8)))] H := hP
        have hD : va_D A [(h, .inr (3, [.int (0), .int (nI lc), .ref (X 0), .ref (X 1), .int (nI ec), .ref (X 2), .ref (X 3), .ref (X 4), .ref (X 5), .ref (X 6), .ref (X 7), .ref (X 8)])), (X 0, .inl (gI g, 12, .inl (V 0))), (X 1, .inl (gI g, 480, .inl (V 1))), (X 2, .inl (gI g, 24, .inl (upd (V 2) (ec) (nI k)))), (X 3, .inl (gI g, 24, .inl (upd (V 3) (ec) (dgF (rwV V k) (NN k))))), (X 4, .inl (gI g, 24, .inl (upd (V 4) (ec) (nI (NN k))))), (X 5, .inl (gI g, 192, .inl (V 5))), (X 6, .inl (gI g, 24, .inl (V 6))), (X 7, .inl (gI g, 24, .inl (V 7))), (X 8, .inl (gI g, 24, .inl (V 8)))] := hD
        refine lv_iconst (v := nI (0)) hx hb dX3_seal_78 (by decide +kernel) ?_
        refine lv_istore_n (lv' := [(3, .int (nI (0))), (2, .int (nI ec)), (0, .ref (h)), (1, .int (nI k))]) hx hb dX3_seal_79 rfl hl (by decide) rfl (fun ls hl => ?_)
        have L80 : ∀ (k1 i : Nat) (H : Heap) (locs : List Loc) (ls : Array Slot), 8 - i < k1 → i ≤ 8 → va_P (gD g) vwCl [(h, .inr (3, [.int (0), .int (nI lc), .ref (X 0), .ref (X 1), .int (nI ec), .ref (X 2), .ref (X 3), .ref (X 4), .ref (X 5), .ref (X 6), .ref (X 7), .ref (X 8)])), (X 0, .inl (gI g, 12, .inl (V 0))), (X 1, .inl (gI g, 480, .inl (V 1))), (X 2, .inl (gI g, 24, .inl (upd (V 2) (ec) (nI k)))), (X 3, .inl (gI g, 24, .inl (upd (V 3) (ec) (dgF (rwV V k) (NN k))))), (X 4, .inl (gI g, 24, .inl (upd (V 4) (ec) (nI (NN k))))), (X 5, .inl (gI g, 192, .inl (pbF (V 5) (8 * ec) (blF (rwV V k) (NN k)) i))), (X 6, .inl (gI g, 24, .inl (V 6))), (X 7, .inl (gI g, 24, .inl (V 7))), (X 8, .inl (gI g, 24, .inl (V 8)))] H → va_D A [(h, .inr (3, [.int (0), .int (nI lc), .ref (X 0), .ref (X 1), .int (nI ec), .ref (X 2), .ref (X 3), .ref (X 4), .ref (X 5), .ref (X 6), .ref (X 7), .ref (X 8)])), (X 0, .inl (gI g, 12, .inl (V 0))), (X 1, .inl (gI g, 480, .inl (V 1))), (X 2, .inl (gI g, 24, .inl (upd (V 2) (ec) (nI k)))), (X 3, .inl (gI g, 24, .inl (upd (V 3) (ec) (dgF (rwV V k) (NN k))))), (X 4, .inl (gI g, 24, .inl (upd (V 4) (ec) (nI (NN k))))), (X 5, .inl (gI g, 192, .inl (pbF (V 5) (8 * ec) (blF (rwV V k) (NN k)) i))), (X 6, .inl (gI g, 24, .inl (V 6))), (X 7, .inl (gI g, 24, .inl (V 7))), (X 8, .inl (gI g, 24, .inl (V 8)))] → va_S A H0 H locs → lv_has ls 4 [(3, .int (nI i)), (2, .int (nI ec)), (0, .ref (h)), (1, .int (nI k))] → W p l e { frames := 3, cells := 0, slots := 0, locals := 68 } s m args below meth c H locs 0 0 Q (F0 m 80 ls []) := by
          intro k1
          induction k1 with
          | zero => intro i H locs ls hFu; exact absurd hFu (Nat.not_lt_zero _)
          | succ k1 ih1 =>
            intro i H locs ls hFu hLe hP hD hS hl
            refine lv_iload_n hx hb dX3_seal_80 rfl (lv_at hl 0 rfl) ?_
            refine lv_bipush (v := nI (8)) hx hb dX3_seal_81 (by decide +kernel) ?_
            refine br_ge (a := i) (b := 8) (tgt := 109) hx hb (by omega) (by omega) dX3_seal_83 (by decide) (fun c83 => ?_) (fun c83 => ?_)
            · have ei : i = 8 := by omega
              rw [ei] at hP hD
              refine lv_aload_n hx hb dX3_seal_109 rfl (lv_at hl 2 rfl) ?_
              refine va_get (D := gD g) (ci := 3) (v := .ref (X 6)) (C := RX3) (T := TX3) (N := 12) hx hb hts iX3 hown hK.1 hP 0 rfl rfl 9 (by decide) f28 (fun _ h9 => h9) rfl dX3_seal_110 ?_
              refine lv_iload_n hx hb dX3_seal_113 rfl (lv_at hl 1 rfl) ?_
              refine lv_aload_n hx hb dX3_seal_114 rfl (lv_at hl 2 rfl) ?_
              refine lv_iload_n hx hb dX3_seal_115 rfl (lv_at hl 3 rfl) ?_
              refine lv_iconst (v := 0) hx hb dX3_seal_116 (by decide +kernel) ?_
              refine p_V (As := [.int (nI k), .int (0)]) (rest := [.int (nI ec), .ref (X 6)]) S (c_X3_sum0 l g h X (vup (vup (vup (vup V 2 (upd (V 2) (ec) (nI k))) 3 (upd (V 3) (ec) (dgF (rwV V k) (NN k)))) 4 (upd (V 4) (ec) (nI (NN k)))) 5 (pbF (V 5) (8 * ec) (blF (rwV V k) (NN k)) 8)) 0 lc ec NN hlc hec hNN k hk) (cwV 2 hts gX3_seal_X3_sum rfl rfl rfl (by decide +kernel) ⟨Nat.le_of_ble_eq_true rfl, Nat.le_of_ble_eq_true rfl⟩) hK (va_recv hK.1 hP (ci := 3) (q0 := 0) rfl rfl) (hP) rfl hl.1 rfl (Nat.le_of_ble_eq_true rfl) dX3_seal_117 ⟨Nat.le_of_ble_eq_true rfl, Nat.le_of_ble_eq_true rfl⟩ ?_
              refine st_I (k := ec) (n := 24) (f := V 6) (x := smF (rwV V k) (NN k)) hx hb hK.1 hP hD hS 7 rfl (by omega) (by omega) dX3_seal_120 (fun H locs hP hD hS => ?_)
              have hP : va_P (gD g) vwCl [(h, .inr (3, [.int (0), .int (nI lc), .ref (X 0), .ref (X 1), .int (nI ec), .ref (X 2), .ref (X 3), .ref (X 4), .ref (X 5), .ref (X 6), .ref (X 7), .ref (X 8)])), (X 0, .inl (gI g, 12, .inl (V 0))), (X 1, .inl (gI g, 480, .inl (V 1))), (X 2, .inl (gI g, 24, .inl (upd (V 2) (ec) (nI k)))), (X 3, .inl (gI g, 24, .inl (upd (V 3) (ec) (dgF (rwV V k) (NN k))))), (X 4, .inl (gI g, 24, .inl (upd (V 4) (ec) (nI (NN k))))), (X 5, .inl (gI g, 192, .inl (pbF (V 5) (8 * ec) (blF (rwV V k) (NN k)) 8))), (X 6, .inl (gI g, 24, .inl (upd (V 6) (ec) (smF (rwV V k) (NN k))))), (X 7, .inl (gI g, 24, .inl (V 7))), (X 8, .inl (gI g, 24, .inl (V 8)))] H := hP
              have hD : va_D A [(h, .inr (3, [.int (0), .int (nI lc), .ref (X 0), .ref (X 1), .int (nI ec), .ref (X 2), .ref (X 3), .ref (X 4), .ref (X 5), .ref (X 6), .ref (X 7), .ref (X 8)])), (X 0, .inl (gI g, 12, .inl (V 0))), (X 1, .inl (gI g, 480, .inl (V 1))), (X 2, .inl (gI g, 24, .inl (upd (V 2) (ec) (nI k)))), (X 3, .inl (gI g, 24, .inl (upd (V 3) (ec) (dgF (rwV V k) (NN k))))), (X 4, .inl (gI g, 24, .inl (upd (V 4) (ec) (nI (NN k))))), (X 5, .inl (gI g, 192, .inl (pbF (V 5) (8 * ec) (blF (rwV V k) (NN k)) 8))), (X 6, .inl (gI g, 24, .inl (upd (V 6) (ec) (smF (rwV V k) (NN k))))), (X 7, .inl (gI g, 24, .inl (V 7))), (X 8, .inl (gI g, 24, .inl (V 8)))] := hD
              refine lv_aload_n hx hb dX3_seal_121 rfl (lv_at hl 2 rfl) ?_
              refine va_get (D := gD g) (ci := 3) (v := .ref (X 7)) (C := RX3) (T := TX3) (N := 12) hx hb hts iX3 hown hK.1 hP 0 rfl rfl 10 (by decide) f31 (fun _ h9 => h9) rfl dX3_seal_122 ?_
              refine lv_iload_n hx hb dX3_seal_125 rfl (lv_at hl 1 rfl) ?_
              refine lv_aload_n hx hb dX3_seal_126 rfl (lv_at hl 2 rfl) ?_
              refine lv_iload_n hx hb dX3_seal_127 rfl (lv_at hl 3 rfl) ?_
              refine lv_iconst (v := 1) hx hb dX3_seal_128 (by decide +kernel) ?_
              refine p_V (As := [.int (nI k), .int (1)]) (rest := [.int (nI ec), .ref (X 7)]) S (c_X3_sum1 l g h X (vup (vup (vup (vup (vup V 2 (upd (V 2) (ec) (nI k))) 3 (upd (V 3) (ec) (dgF (rwV V k) (NN k)))) 4 (upd (V 4) (ec) (nI (NN k)))) 5 (pbF (V 5) (8 * ec) (blF (rwV V k) (NN k)) 8)) 6 (upd (V 6) (ec) (smF (rwV V k) (NN k)))) 0 lc ec NN hlc hec hNN k hk) (cwV 2 hts gX3_seal_X3_sum rfl rfl rfl (by decide +kernel) ⟨Nat.le_of_ble_eq_true rfl, Nat.le_of_ble_eq_true rfl⟩) hK (va_recv hK.1 hP (ci := 3) (q0 := 0) rfl rfl) (hP) rfl hl.1 rfl (Nat.le_of_ble_eq_true rfl) dX3_seal_129 ⟨Nat.le_of_ble_eq_true rfl, Nat.le_of_ble_eq_true rfl⟩ ?_
              refine st_I (k := ec) (n := 24) (f := V 7) (x := wtF (rwV V k) (NN k)) hx hb hK.1 hP hD hS 8 rfl (by omega) (by omega) dX3_seal_132 (fun H locs hP hD hS => ?_)
              have hP : va_P (gD g) vwCl [(h, .inr (3, [.int (0), .int (nI lc), .ref (X 0), .ref (X 1), .int (nI ec), .ref (X 2), .ref (X 3), .ref (X 4), .ref (X 5), .ref (X 6), .ref (X 7), .ref (X 8)])), (X 0, .inl (gI g, 12, .inl (V 0))), (X 1, .inl (gI g, 480, .inl (V 1))), (X 2, .inl (gI g, 24, .inl (upd (V 2) (ec) (nI k)))), (X 3, .inl (gI g, 24, .inl (upd (V 3) (ec) (dgF (rwV V k) (NN k))))), (X 4, .inl (gI g, 24, .inl (upd (V 4) (ec) (nI (NN k))))), (X 5, .inl (gI g, 192, .inl (pbF (V 5) (8 * ec) (blF (rwV V k) (NN k)) 8))), (X 6, .inl (gI g, 24, .inl (upd (V 6) (ec) (smF (rwV V k) (NN k))))), (X 7, .inl (gI g, 24, .inl (upd (V 7) (ec) (wtF (rwV V k) (NN k))))), (X 8, .inl (gI g, 24, .inl (V 8)))] H := hP
              have hD : va_D A [(h, .inr (3, [.int (0), .int (nI lc), .ref (X 0), .ref (X 1), .int (nI ec), .ref (X 2), .ref (X 3), .ref (X 4), .ref (X 5), .ref (X 6), .ref (X 7), .ref (X 8)])), (X 0, .inl (gI g, 12, .inl (V 0))), (X 1, .inl (gI g, 480, .inl (V 1))), (X 2, .inl (gI g, 24, .inl (upd (V 2) (ec) (nI k)))), (X 3, .inl (gI g, 24, .inl (upd (V 3) (ec) (dgF (rwV V k) (NN k))))), (X 4, .inl (gI g, 24, .inl (upd (V 4) (ec) (nI (NN k))))), (X 5, .inl (gI g, 192, .inl (pbF (V 5) (8 * ec) (blF (rwV V k) (NN k)) 8))), (X 6, .inl (gI g, 24, .inl (upd (V 6) (ec) (smF (rwV V k) (NN k))))), (X 7, .inl (gI g, 24, .inl (upd (V 7) (ec) (wtF (rwV V k) (NN k))))), (X 8, .inl (gI g, 24, .inl (V 8)))] := hD
              refine lv_aload_n hx hb dX3_seal_133 rfl (lv_at hl 2 rfl) ?_
              refine va_get (D := gD g) (ci := 3) (v := .ref (X 8)) (C := RX3) (T := TX3) (N := 12) hx hb hts iX3 hown hK.1 hP 0 rfl rfl 11 (by decide) f34 (fun _ h9 => h9) rfl dX3_seal_134 ?_
              refine lv_iload_n hx hb dX3_seal_137 rfl (lv_at hl 1 rfl) ?_
              refine lv_aload_n hx hb dX3_seal_138 rfl (lv_at hl 2 rfl) ?_
              refine lv_aload_n hx hb dX3_seal_139 rfl (lv_at hl 2 rfl) ?_
              refine va_get (D := gD g) (ci := 3) (v := .ref (X 3)) (C := RX3) (T := TX3) (N := 12) hx hb hts iX3 hown hK.1 hP 0 rfl rfl 6 (by decide) f19 (fun _ h9 => h9) rfl dX3_seal_140 ?_
              refine lv_iload_n hx hb dX3_seal_143 rfl (lv_at hl 1 rfl) ?_
              refine ld_I (k := ec) (n := 24) (f := upd (V 3) (ec) (dgF (rwV V k) (NN k))) hx hb hK.1 hP 4 rfl (by omega) (by omega) dX3_seal_144 ?_
              refine lv_toI (z := dgF (rwV V k) (NN k)) (upd_at _ _ _) ?_
              refine p_V (As := [.int (dgF (rwV V k) (NN k))]) (rest := [.int (nI ec), .ref (X 8)]) S (c_X3_sealWith l g h X (vup (vup (vup (vup (vup (vup V 2 (upd (V 2) (ec) (nI k))) 3 (upd (V 3) (ec) (dgF (rwV V k) (NN k)))) 4 (upd (V 4) (ec) (nI (NN k)))) 5 (pbF (V 5) (8 * ec) (blF (rwV V k) (NN k)) 8)) 6 (upd (V 6) (ec) (smF (rwV V k) (NN k)))) 7 (upd (V 7) (ec) (wtF (rwV V k) (NN k)))) 0 lc ec (dgF (rwV V k) (NN k)) hec) (cwV 1 hts gX3_seal_X3_sealWith rfl rfl rfl (by decide +kernel) ⟨Nat.le_of_ble_eq_true rfl, Nat.le_of_ble_eq_true rfl⟩) hK (va_recv hK.1 hP (ci := 3) (q0 := 0) rfl rfl) (hP) rfl hl.1 rfl (Nat.le_of_ble_eq_true rfl) dX3_seal_145 ⟨Nat.le_of_ble_eq_true rfl, Nat.le_of_ble_eq_true rfl⟩ ?_
              refine st_I (k := ec) (n := 24) (f := V 8) (x := slF (lsV (V 8) ec) (dgF (rwV V k) (NN k))) hx hb hK.1 hP hD hS 9 rfl (by omega) (by omega) dX3_seal_148 (fun H locs hP hD hS => ?_)
              have hP : va_P (gD g) vwCl [(h, .inr (3, [.int (0), .int (nI lc), .ref (X 0), .ref (X 1), .int (nI ec), .ref (X 2), .ref (X 3), .ref (X 4), .ref (X 5), .ref (X 6), .ref (X 7), .ref (X 8)])), (X 0, .inl (gI g, 12, .inl (V 0))), (X 1, .inl (gI g, 480, .inl (V 1))), (X 2, .inl (gI g, 24, .inl (upd (V 2) (ec) (nI k)))), (X 3, .inl (gI g, 24, .inl (upd (V 3) (ec) (dgF (rwV V k) (NN k))))), (X 4, .inl (gI g, 24, .inl (upd (V 4) (ec) (nI (NN k))))), (X 5, .inl (gI g, 192, .inl (pbF (V 5) (8 * ec) (blF (rwV V k) (NN k)) 8))), (X 6, .inl (gI g, 24, .inl (upd (V 6) (ec) (smF (rwV V k) (NN k))))), (X 7, .inl (gI g, 24, .inl (upd (V 7) (ec) (wtF (rwV V k) (NN k))))), (X 8, .inl (gI g, 24, .inl (upd (V 8) (ec) (slF (lsV (V 8) ec) (dgF (rwV V k) (NN k))))))] H := hP
              have hD : va_D A [(h, .inr (3, [.int (0), .int (nI lc), .ref (X 0), .ref (X 1), .int (nI ec), .ref (X 2), .ref (X 3), .ref (X 4), .ref (X 5), .ref (X 6), .ref (X 7), .ref (X 8)])), (X 0, .inl (gI g, 12, .inl (V 0))), (X 1, .inl (gI g, 480, .inl (V 1))), (X 2, .inl (gI g, 24, .inl (upd (V 2) (ec) (nI k)))), (X 3, .inl (gI g, 24, .inl (upd (V 3) (ec) (dgF (rwV V k) (NN k))))), (X 4, .inl (gI g, 24, .inl (upd (V 4) (ec) (nI (NN k))))), (X 5, .inl (gI g, 192, .inl (pbF (V 5) (8 * ec) (blF (rwV V k) (NN k)) 8))), (X 6, .inl (gI g, 24, .inl (upd (V 6) (ec) (smF (rwV V k) (NN k))))), (X 7, .inl (gI g, 24, .inl (upd (V 7) (ec) (wtF (rwV V k) (NN k))))), (X 8, .inl (gI g, 24, .inl (upd (V 8) (ec) (slF (lsV (V 8) ec) (dgF (rwV V k) (NN k))))))] := hD
              refine lv_aload_n hx hb dX3_seal_149 rfl (lv_at hl 2 rfl) ?_
              refine lv_dup hx hb dX3_seal_150 rfl ?_
              refine va_get (D := gD g) (ci := 3) (v := .int (nI ec)) (C := RX3) (T := TX3) (N := 12) hx hb hts iX3 hown hK.1 hP 0 rfl rfl 4 (by decide) f48 (fun _ h9 => h9) rfl dX3_seal_151 ?_
              refine lv_iconst (v := nI (1)) hx hb dX3_seal_154 (by decide +kernel) ?_
              refine lv_iadd hx hb dX3_seal_155 ?_
              refine lv_toI (z := nI (ec + 1)) (nI_add _ _) ?_
              refine va_put (D := gD g) (ci := 3) (v := .int (nI (ec + 1))) (ty := .int) (C := RX3) (T := TX3) (N := 12) hx hb hts iX3 tyX3 tyX3_ok nmX3 hown hK.1 hP hD hS 0 rfl rfl 4 (by decide) f48 (fun _ h9 => h9) rfl (by decide +kernel) rfl rfl (Nat.le_of_ble_eq_true rfl) dX3_seal_156 (fun H locs hP hD hS => ?_)
              have hP : va_P (gD g) vwCl [(h, .inr (3, [.int (0), .int (nI lc), .ref (X 0), .ref (X 1), .int (nI (ec + 1)), .ref (X 2), .ref (X 3), .ref (X 4), .ref (X 5), .ref (X 6), .ref (X 7), .ref (X 8)])), (X 0, .inl (gI g, 12, .inl (V 0))), (X 1, .inl (gI g, 480, .inl (V 1))), (X 2, .inl (gI g, 24, .inl (upd (V 2) (ec) (nI k)))), (X 3, .inl (gI g, 24, .inl (upd (V 3) (ec) (dgF (rwV V k) (NN k))))), (X 4, .inl (gI g, 24, .inl (upd (V 4) (ec) (nI (NN k))))), (X 5, .inl (gI g, 192, .inl (pbF (V 5) (8 * ec) (blF (rwV V k) (NN k)) 8))), (X 6, .inl (gI g, 24, .inl (upd (V 6) (ec) (smF (rwV V k) (NN k))))), (X 7, .inl (gI g, 24, .inl (upd (V 7) (ec) (wtF (rwV V k) (NN k))))), (X 8, .inl (gI g, 24, .inl (upd (V 8) (ec) (slF (lsV (V 8) ec) (dgF (rwV V k) (NN k))))))] H := hP
              have hD : va_D A [(h, .inr (3, [.int (0), .int (nI lc), .ref (X 0), .ref (X 1), .int (nI (ec + 1)), .ref (X 2), .ref (X 3), .ref (X 4), .ref (X 5), .ref (X 6), .ref (X 7), .ref (X 8)])), (X 0, .inl (gI g, 12, .inl (V 0))), (X 1, .inl (gI g, 480, .inl (V 1))), (X 2, .inl (gI g, 24, .inl (upd (V 2) (ec) (nI k)))), (X 3, .inl (gI g, 24, .inl (upd (V 3) (ec) (dgF (rwV V k) (NN k))))), (X 4, .inl (gI g, 24, .inl (upd (V 4) (ec) (nI (NN k))))), (X 5, .inl (gI g, 192, .inl (pbF (V 5) (8 * ec) (blF (rwV V k) (NN k)) 8))), (X 6, .inl (gI g, 24, .inl (upd (V 6) (ec) (smF (rwV V k) (NN k))))), (X 7, .inl (gI g, 24, .inl (upd (V 7) (ec) (wtF (rwV V k) (NN k))))), (X 8, .inl (gI g, 24, .inl (upd (V 8) (ec) (slF (lsV (V 8) ec) (dgF (rwV V k) (NN k))))))] := hD
              refine lv_iload_n hx hb dX3_seal_159 rfl (lv_at hl 1 rfl) ?_
              exact hret _ _ _ _ hP hS dX3_seal_160
            · refine lv_aload_n hx hb dX3_seal_86 rfl (lv_at hl 2 rfl) ?_
              refine va_get (D := gD g) (ci := 3) (v := .ref (X 5)) (C := RX3) (T := TX3) (N := 12) hx hb hts iX3 hown hK.1 hP 0 rfl rfl 8 (by decide) f25 (fun _ h9 => h9) rfl dX3_seal_87 ?_
              refine lv_bipush (v := nI (8)) hx hb dX3_seal_90 (by decide +kernel) ?_
              refine lv_iload_n hx hb dX3_seal_92 rfl (lv_at hl 1 rfl) ?_
              refine lv_imul hx hb dX3_seal_93 ?_
              refine lv_toI (z := nI (8 * ec)) (pk_mul _ _) ?_
              refine lv_iload_n hx hb dX3_seal_94 rfl (lv_at hl 0 rfl) ?_
              refine lv_iadd hx hb dX3_seal_95 ?_
              refine lv_toI (z := nI (8 * ec + i)) (nI_add _ _) ?_
              refine lv_aload_n hx hb dX3_seal_96 rfl (lv_at hl 2 rfl) ?_
              refine lv_iload_n hx hb dX3_seal_97 rfl (lv_at hl 3 rfl) ?_
              refine lv_iload_n hx hb dX3_seal_98 rfl (lv_at hl 0 rfl) ?_
              refine p_V (As := [.int (nI k), .int (nI i)]) (rest := [.int (nI (8 * ec + i)), .ref (X 5)]) S (c_X3_block l g h X (vup (vup (vup (vup V 2 (upd (V 2) (ec) (nI k))) 3 (upd (V 3) (ec) (dgF (rwV V k) (NN k)))) 4 (upd (V 4) (ec) (nI (NN k)))) 5 (pbF (V 5) (8 * ec) (blF (rwV V k) (NN k)) i)) 0 lc ec NN hlc hec hNN k hk i (by omega)) (cwV 2 hts gX3_seal_X3_block rfl rfl rfl (by decide +kernel) ⟨Nat.le_of_ble_eq_true rfl, Nat.le_of_ble_eq_true rfl⟩) hK (va_recv hK.1 hP (ci := 3) (q0 := 0) rfl rfl) (hP) rfl hl.1 rfl (Nat.le_of_ble_eq_true rfl) dX3_seal_99 ⟨Nat.le_of_ble_eq_true rfl, Nat.le_of_ble_eq_true rfl⟩ ?_
              refine st_I (k := 8 * ec + i) (n := 192) (f := pbF (V 5) (8 * ec) (blF (rwV V k) (NN k)) i) (x := blF (rwV V k) (NN k) i) hx hb hK.1 hP hD hS 6 rfl (by omega) (by omega) dX3_seal_102 (fun H locs hP hD hS => ?_)
              have hP : va_P (gD g) vwCl [(h, .inr (3, [.int (0), .int (nI lc), .ref (X 0), .ref (X 1), .int (nI ec), .ref (X 2), .ref (X 3), .ref (X 4), .ref (X 5), .ref (X 6), .ref (X 7), .ref (X 8)])), (X 0, .inl (gI g, 12, .inl (V 0))), (X 1, .inl (gI g, 480, .inl (V 1))), (X 2, .inl (gI g, 24, .inl (upd (V 2) (ec) (nI k)))), (X 3, .inl (gI g, 24, .inl (upd (V 3) (ec) (dgF (rwV V k) (NN k))))), (X 4, .inl (gI g, 24, .inl (upd (V 4) (ec) (nI (NN k))))), (X 5, .inl (gI g, 192, .inl (upd (pbF (V 5) (8 * ec) (blF (rwV V k) (NN k)) i) (8 * ec + i) (blF (rwV V k) (NN k) i)))), (X 6, .inl (gI g, 24, .inl (V 6))), (X 7, .inl (gI g, 24, .inl (V 7))), (X 8, .inl (gI g, 24, .inl (V 8)))] H := hP
              have hD : va_D A [(h, .inr (3, [.int (0), .int (nI lc), .ref (X 0), .ref (X 1), .int (nI ec), .ref (X 2), .ref (X 3), .ref (X 4), .ref (X 5), .ref (X 6), .ref (X 7), .ref (X 8)])), (X 0, .inl (gI g, 12, .inl (V 0))), (X 1, .inl (gI g, 480, .inl (V 1))), (X 2, .inl (gI g, 24, .inl (upd (V 2) (ec) (nI k)))), (X 3, .inl (gI g, 24, .inl (upd (V 3) (ec) (dgF (rwV V k) (NN k))))), (X 4, .inl (gI g, 24, .inl (upd (V 4) (ec) (nI (NN k))))), (X 5, .inl (gI g, 192, .inl (upd (pbF (V 5) (8 * ec) (blF (rwV V k) (NN k)) i) (8 * ec + i) (blF (rwV V k) (NN k) i)))), (X 6, .inl (gI g, 24, .inl (V 6))), (X 7, .inl (gI g, 24, .inl (V 7))), (X 8, .inl (gI g, 24, .inl (V 8)))] := hD
              have hP : va_P (gD g) vwCl [(h, .inr (3, [.int (0), .int (nI lc), .ref (X 0), .ref (X 1), .int (nI ec), .ref (X 2), .ref (X 3), .ref (X 4), .ref (X 5), .ref (X 6), .ref (X 7), .ref (X 8)])), (X 0, .inl (gI g, 12, .inl (V 0))), (X 1, .inl (gI g, 480, .inl (V 1))), (X 2, .inl (gI g, 24, .inl (upd (V 2) (ec) (nI k)))), (X 3, .inl (gI g, 24, .inl (upd (V 3) (ec) (dgF (rwV V k) (NN k))))), (X 4, .inl (gI g, 24, .inl (upd (V 4) (ec) (nI (NN k))))), (X 5, .inl (gI g, 192, .inl (pbF (V 5) (8 * ec) (blF (rwV V k) (NN k)) (i + 1)))), (X 6, .inl (gI g, 24, .inl (V 6))), (X 7, .inl (gI g, 24, .inl (V 7))), (X 8, .inl (gI g, 24, .inl (V 8)))] H := by rw [show pbF (V 5) (8 * ec) (blF (rwV V k) (NN k)) (i + 1) = upd (pbF (V 5) (8 * ec) (blF (rwV V k) (NN k)) i) (8 * ec + i) (blF (rwV V k) (NN k) i) from pbF_up _ _ _ _]; exact hP
              have hD : va_D A [(h, .inr (3, [.int (0), .int (nI lc), .ref (X 0), .ref (X 1), .int (nI ec), .ref (X 2), .ref (X 3), .ref (X 4), .ref (X 5), .ref (X 6), .ref (X 7), .ref (X 8)])), (X 0, .inl (gI g, 12, .inl (V 0))), (X 1, .inl (gI g, 480, .inl (V 1))), (X 2, .inl (gI g, 24, .inl (upd (V 2) (ec) (nI k)))), (X 3, .inl (gI g, 24, .inl (upd (V 3) (ec) (dgF (rwV V k) (NN k))))), (X 4, .inl (gI g, 24, .inl (upd (V 4) (ec) (nI (NN k))))), (X 5, .inl (gI g, 192, .inl (pbF (V 5) (8 * ec) (blF (rwV V k) (NN k)) (i + 1)))), (X 6, .inl (gI g, 24, .inl (V 6))), (X 7, .inl (gI g, 24, .inl (V 7))), (X 8, .inl (gI g, 24, .inl (V 8)))] := by rw [show pbF (V 5) (8 * ec) (blF (rwV V k) (NN k)) (i + 1) = upd (pbF (V 5) (8 * ec) (blF (rwV V k) (NN k)) i) (8 * ec + i) (blF (rwV V k) (NN k) i) from pbF_up _ _ _ _]; exact hD
              refine lv_iinc (v := nI (i + 1)) (lv' := [(3, .int (nI (i + 1))), (2, .int (nI ec)), (0, .ref (h)), (1, .int (nI k))]) hx hb dX3_seal_103 hl (k := 0) rfl (nI_1 _) (by decide) rfl (fun ls hl => ?_)
              refine lv_goto (tgt := 80) hx hb dX3_seal_106 (by decide) ?_
              exact ih1 (i + 1) _ _ _ (by omega) (by omega) hP hD hS (lv_sub hl [0, 1, 2, 3] rfl)
        exact L80 (8 + 1) (0) _ _ _ (by omega) (by omega) (by rw [pbF_0]; exact hP) (by rw [pbF_0]; exact hD) hS (lv_sub hl [0, 1, 2, 3] rfl)
      · omega
  · exact absurd c10 (by rw [hgk]; decide)

set_option maxHeartbeats 4000000 in
set_option maxRecDepth 100000 in
/-- seal_1 -/
theorem c_X3_seal_1 (l : Launch) (g : gT) (h : Nat) (X : Nat → Nat) (V : Nat → Nat → Int32) (th : Int32) (lc ec : Nat) (hlc : lc ≤ 12) (hec : ec ≤ 24) (x : Int32) (hxb : inB x lc = false) : wM g l yX3_seal wsX3_seal { frames := 3, cells := 0, slots := 0, locals := 68 } [.ref (h), .int (x)] (mdW g h X V th lc ec) (some (.int (0))) (mdW g h X V 1 lc ec) := by
  refine wr_ofI (cc := cX3_seal) (maxL := 4) (by decide) rfl (Nat.le_of_ble_eq_true rfl) ?_
  intro p e s m args below meth c H0 ls A Q hx hb hml hts hown hK hP hD hS hl hret
  have hl : lv_has ls 4 [(0, .ref (h)), (1, .int (x))] := hl
  have S : CallFix p m c cX3_seal 4 s args wsX3_seal RX3 := ⟨hx, hb, hml, hown, hts⟩
  have iX3 : ∀ w ∈ u_ws RX3 TX3 12, w ∈ wsX3_seal := by decide +kernel
  have f37 := hts (.fieldLink RX3 37 "LetterSealsModel" "thrown" "I") (by decide +kernel)
  obtain ⟨H, eH⟩ : ∃ H : Heap, H = H0 := ⟨_, rfl⟩
  rw [← eH] at hP ⊢
  have hS : va_S A H0 H [] := by rw [eH]; exact hS
  have hP : va_P (gD g) vwCl [(h, .inr (3, [.int (th), .int (nI lc), .ref (X 0), .ref (X 1), .int (nI ec), .ref (X 2), .ref (X 3), .ref (X 4), .ref (X 5), .ref (X 6), .ref (X 7), .ref (X 8)])), (X 0, .inl (gI g, 12, .inl (V 0))), (X 1, .inl (gI g, 480, .inl (V 1))), (X 2, .inl (gI g, 24, .inl (V 2))), (X 3, .inl (gI g, 24, .inl (V 3))), (X 4, .inl (gI g, 24, .inl (V 4))), (X 5, .inl (gI g, 192, .inl (V 5))), (X 6, .inl (gI g, 24, .inl (V 6))), (X 7, .inl (gI g, 24, .inl (V 7))), (X 8, .inl (gI g, 24, .inl (V 8)))] H := hP
  have hD : va_D A [(h, .inr (3, [.int (th), .int (nI lc), .ref (X 0), .ref (X 1), .int (nI ec), .ref (X 2), .ref (X 3), .ref (X 4), .ref (X 5), .ref (X 6), .ref (X 7), .ref (X 8)])), (X 0, .inl (gI g, 12, .inl (V 0))), (X 1, .inl (gI g, 480, .inl (V 1))), (X 2, .inl (gI g, 24, .inl (V 2))), (X 3, .inl (gI g, 24, .inl (V 3))), (X 4, .inl (gI g, 24, .inl (V 4))), (X 5, .inl (gI g, 192, .inl (V 5))), (X 6, .inl (gI g, 24, .inl (V 6))), (X 7, .inl (gI g, 24, .inl (V 7))), (X 8, .inl (gI g, 24, .inl (V 8)))] := hD
  refine lv_aload_n hx hb dX3_seal_0 rfl (lv_at hl 0 rfl) ?_
  refine lv_iconst (v := 0) hx hb dX3_seal_1 (by decide +kernel) ?_
  refine va_put (D := gD g) (ci := 3) (v := .int (0)) (ty := .int) (C := RX3) (T := TX3) (N := 12) hx hb hts iX3 tyX3 tyX3_ok nmX3 hown hK.1 hP hD hS 0 rfl rfl 0 (by decide) f37 (fun _ h9 => h9) rfl (by decide +kernel) rfl rfl (Nat.le_of_ble_eq_true rfl) dX3_seal_2 (fun H locs hP hD hS => ?_)
  have hP : va_P (gD g) vwCl [(h, .inr (3, [.int (0), .int (nI lc), .ref (X 0), .ref (X 1), .int (nI ec), .ref (X 2), .ref (X 3), .ref (X 4), .ref (X 5), .ref (X 6), .ref (X 7), .ref (X 8)])), (X 0, .inl (gI g, 12, .inl (V 0))), (X 1, .inl (gI g, 480, .inl (V 1))), (X 2, .inl (gI g, 24, .inl (V 2))), (X 3, .inl (gI g, 24, .inl (V 3))), (X 4, .inl (gI g, 24, .inl (V 4))), (X 5, .inl (gI g, 192, .inl (V 5))), (X 6, .inl (gI g, 24, .inl (V 6))), (X 7, .inl (gI g, 24, .inl (V 7))), (X 8, .inl (gI g, 24, .inl (V 8)))] H := hP
  have hD : va_D A [(h, .inr (3, [.int (0), .int (nI lc), .ref (X 0), .ref (X 1), .int (nI ec), .ref (X 2), .ref (X 3), .ref (X 4), .ref (X 5), .ref (X 6), .ref (X 7), .ref (X 8)])), (X 0, .inl (gI g, 12, .inl (V 0))), (X 1, .inl (gI g, 480, .inl (V 1))), (X 2, .inl (gI g, 24, .inl (V 2))), (X 3, .inl (gI g, 24, .inl (V 3))), (X 4, .inl (gI g, 24, .inl (V 4))), (X 5, .inl (gI g, 192, .inl (V 5))), (X 6, .inl (gI g, 24, .inl (V 6))), (X 7, .inl (gI g, 24, .inl (V 7))), (X 8, .inl (gI g, 24, .inl (V 8)))] := hD
  refine lv_aload_n hx hb dX3_seal_5 rfl (lv_at hl 0 rfl) ?_
  refine lv_iload_n hx hb dX3_seal_6 rfl (lv_at hl 1 rfl) ?_
  refine p_V (As := [.int (x)]) (rest := []) S (c_X3_isLetter l g h X V 0 lc ec (x) hlc hec) (cwV 1 hts gX3_seal_X3_isLetter rfl rfl rfl (by decide +kernel) ⟨Nat.le_of_ble_eq_true rfl, Nat.le_of_ble_eq_true rfl⟩) hK (va_recv hK.1 hP (ci := 3) (q0 := 0) rfl rfl) (hP) rfl hl.1 rfl (Nat.le_of_ble_eq_true rfl) dX3_seal_7 ⟨Nat.le_of_ble_eq_true rfl, Nat.le_of_ble_eq_true rfl⟩ ?_
  refine br_neB (tgt := 19) hx hb dX3_seal_10 (by decide) (fun c10 => ?_) (fun c10 => ?_)
  · exact absurd c10 (by rw [hxb]; decide)
  · refine lv_aload_n hx hb dX3_seal_13 rfl (lv_at hl 0 rfl) ?_
    refine lv_iconst (v := 1) hx hb dX3_seal_14 (by decide +kernel) ?_
    refine w_V (As := [.int (1)]) (rest := []) S (c_X3_no l g h X V 0 lc ec (1)) (cwV 1 hts gX3_seal_X3_no rfl rfl rfl (by decide +kernel) ⟨Nat.le_of_ble_eq_true rfl, Nat.le_of_ble_eq_true rfl⟩) hK (va_recv hK.1 hP (ci := 3) (q0 := 0) rfl rfl) hP (hD.weaken (fun _ _ _ _ => trivial)) hS (wA_D hD [0, 1, 2, 3, 4, 5, 6, 7, 8, 9] rfl) rfl hl.1 rfl (Nat.le_of_ble_eq_true rfl) dX3_seal_15 ⟨Nat.le_of_ble_eq_true rfl, Nat.le_of_ble_eq_true rfl⟩ (fun H locs hP1 hz1 hk1 hS => ?_)
    have hP : va_P (gD g) vwCl [(h, .inr (3, [.int (1), .int (nI lc), .ref (X 0), .ref (X 1), .int (nI ec), .ref (X 2), .ref (X 3), .ref (X 4), .ref (X 5), .ref (X 6), .ref (X 7), .ref (X 8)])), (X 0, .inl (gI g, 12, .inl (V 0))), (X 1, .inl (gI g, 480, .inl (V 1))), (X 2, .inl (gI g, 24, .inl (V 2))), (X 3, .inl (gI g, 24, .inl (V 3))), (X 4, .inl (gI g, 24, .inl (V 4))), (X 5, .inl (gI g, 192, .inl (V 5))), (X 6, .inl (gI g, 24, .inl (V 6))), (X 7, .inl (gI g, 24, .inl (V 7))), (X 8, .inl (gI g, 24, .inl (V 8)))] H := hP1
    have hD : va_D A [(h, .inr (3, [.int (1), .int (nI lc), .ref (X 0), .ref (X 1), .int (nI ec), .ref (X 2), .ref (X 3), .ref (X 4), .ref (X 5), .ref (X 6), .ref (X 7), .ref (X 8)])), (X 0, .inl (gI g, 12, .inl (V 0))), (X 1, .inl (gI g, 480, .inl (V 1))), (X 2, .inl (gI g, 24, .inl (V 2))), (X 3, .inl (gI g, 24, .inl (V 3))), (X 4, .inl (gI g, 24, .inl (V 4))), (X 5, .inl (gI g, 192, .inl (V 5))), (X 6, .inl (gI g, 24, .inl (V 6))), (X 7, .inl (gI g, 24, .inl (V 7))), (X 8, .inl (gI g, 24, .inl (V 8)))] := D_same hD rfl
    exact hret _ _ _ _ hP hS dX3_seal_18

set_option maxHeartbeats 4000000 in
set_option maxRecDepth 100000 in
/-- seal_2 -/
theorem c_X3_seal_2 (l : Launch) (g : gT) (h : Nat) (X : Nat → Nat) (V : Nat → Nat → Int32) (th : Int32) (lc ec : Nat) (NN : Nat → Nat) (hlc : lc ≤ 12) (hec : ec ≤ 24) (hNN : ∀ i, i < lc → V 0 i = nI (NN i) ∧ NN i ≤ 40) (k : Nat) (hk : k < lc) (he1 : ec = 24) : wM g l yX3_seal wsX3_seal { frames := 3, cells := 0, slots := 0, locals := 68 } [.ref (h), .int (nI k)] (mdW g h X V th lc ec) (some (.int (0))) (mdW g h X V 2 lc ec) := by
  refine wr_ofI (cc := cX3_seal) (maxL := 4) (by decide) rfl (Nat.le_of_ble_eq_true rfl) ?_
  intro p e s m args below meth c H0 ls A Q hx hb hml hts hown hK hP hD hS hl hret
  have hl : lv_has ls 4 [(0, .ref (h)), (1, .int (nI k))] := hl
  have S : CallFix p m c cX3_seal 4 s args wsX3_seal RX3 := ⟨hx, hb, hml, hown, hts⟩
  have hgk : inB (nI k) lc = true := inB_nI hk (by omega)
  have hVn := (hNN k hk).1
  have hn := (hNN k hk).2
  have iX3 : ∀ w ∈ u_ws RX3 TX3 12, w ∈ wsX3_seal := by decide +kernel
  have f37 := hts (.fieldLink RX3 37 "LetterSealsModel" "thrown" "I") (by decide +kernel)
  have f48 := hts (.fieldLink RX3 48 "LetterSealsModel" "envelopes" "I") (by decide +kernel)
  obtain ⟨H, eH⟩ : ∃ H : Heap, H = H0 := ⟨_, rfl⟩
  rw [← eH] at hP ⊢
  have hS : va_S A H0 H [] := by rw [eH]; exact hS
  have hP : va_P (gD g) vwCl [(h, .inr (3, [.int (th), .int (nI lc), .ref (X 0), .ref (X 1), .int (nI ec), .ref (X 2), .ref (X 3), .ref (X 4), .ref (X 5), .ref (X 6), .ref (X 7), .ref (X 8)])), (X 0, .inl (gI g, 12, .inl (V 0))), (X 1, .inl (gI g, 480, .inl (V 1))), (X 2, .inl (gI g, 24, .inl (V 2))), (X 3, .inl (gI g, 24, .inl (V 3))), (X 4, .inl (gI g, 24, .inl (V 4))), (X 5, .inl (gI g, 192, .inl (V 5))), (X 6, .inl (gI g, 24, .inl (V 6))), (X 7, .inl (gI g, 24, .inl (V 7))), (X 8, .inl (gI g, 24, .inl (V 8)))] H := hP
  have hD : va_D A [(h, .inr (3, [.int (th), .int (nI lc), .ref (X 0), .ref (X 1), .int (nI ec), .ref (X 2), .ref (X 3), .ref (X 4), .ref (X 5), .ref (X 6), .ref (X 7), .ref (X 8)])), (X 0, .inl (gI g, 12, .inl (V 0))), (X 1, .inl (gI g, 480, .inl (V 1))), (X 2, .inl (gI g, 24, .inl (V 2))), (X 3, .inl (gI g, 24, .inl (V 3))), (X 4, .inl (gI g, 24, .inl (V 4))), (X 5, .inl (gI g, 192, .inl (V 5))), (X 6, .inl (gI g, 24, .inl (V 6))), (X 7, .inl (gI g, 24, .inl (V 7))), (X 8, .inl (gI g, 24, .inl (V 8)))] := hD
  refine lv_aload_n hx hb dX3_seal_0 rfl (lv_at hl 0 rfl) ?_
  refine lv_iconst (v := 0) hx hb dX3_seal_1 (by decide +kernel) ?_
  refine va_put (D := gD g) (ci := 3) (v := .int (0)) (ty := .int) (C := RX3) (T := TX3) (N := 12) hx hb hts iX3 tyX3 tyX3_ok nmX3 hown hK.1 hP hD hS 0 rfl rfl 0 (by decide) f37 (fun _ h9 => h9) rfl (by decide +kernel) rfl rfl (Nat.le_of_ble_eq_true rfl) dX3_seal_2 (fun H locs hP hD hS => ?_)
  have hP : va_P (gD g) vwCl [(h, .inr (3, [.int (0), .int (nI lc), .ref (X 0), .ref (X 1), .int (nI ec), .ref (X 2), .ref (X 3), .ref (X 4), .ref (X 5), .ref (X 6), .ref (X 7), .ref (X 8)])), (X 0, .inl (gI g, 12, .inl (V 0))), (X 1, .inl (gI g, 480, .inl (V 1))), (X 2, .inl (gI g, 24, .inl (V 2))), (X 3, .inl (gI g, 24, .inl (V 3))), (X 4, .inl (gI g, 24, .inl (V 4))), (X 5, .inl (gI g, 192, .inl (V 5))), (X 6, .inl (gI g, 24, .inl (V 6))), (X 7, .inl (gI g, 24, .inl (V 7))), (X 8, .inl (gI g, 24, .inl (V 8)))] H := hP
  have hD : va_D A [(h, .inr (3, [.int (0), .int (nI lc), .ref (X 0), .ref (X 1), .int (nI ec), .ref (X 2), .ref (X 3), .ref (X 4), .ref (X 5), .ref (X 6), .ref (X 7), .ref (X 8)])), (X 0, .inl (gI g, 12, .inl (V 0))), (X 1, .inl (gI g, 480, .inl (V 1))), (X 2, .inl (gI g, 24, .inl (V 2))), (X 3, .inl (gI g, 24, .inl (V 3))), (X 4, .inl (gI g, 24, .inl (V 4))), (X 5, .inl (gI g, 192, .inl (V 5))), (X 6, .inl (gI g, 24, .inl (V 6))), (X 7, .inl (gI g, 24, .inl (V 7))), (X 8, .inl (gI g, 24, .inl (V 8)))] := hD
  refine lv_aload_n hx hb dX3_seal_5 rfl (lv_at hl 0 rfl) ?_
  refine lv_iload_n hx hb dX3_seal_6 rfl (lv_at hl 1 rfl) ?_
  refine p_V (As := [.int (nI k)]) (rest := []) S (c_X3_isLetter l g h X V 0 lc ec (nI k) hlc hec) (cwV 1 hts gX3_seal_X3_isLetter rfl rfl rfl (by decide +kernel) ⟨Nat.le_of_ble_eq_true rfl, Nat.le_of_ble_eq_true rfl⟩) hK (va_recv hK.1 hP (ci := 3) (q0 := 0) rfl rfl) (hP) rfl hl.1 rfl (Nat.le_of_ble_eq_true rfl) dX3_seal_7 ⟨Nat.le_of_ble_eq_true rfl, Nat.le_of_ble_eq_true rfl⟩ ?_
  refine br_neB (tgt := 19) hx hb dX3_seal_10 (by decide) (fun c10 => ?_) (fun c10 => ?_)
  · refine lv_aload_n hx hb dX3_seal_19 rfl (lv_at hl 0 rfl) ?_
    refine va_get (D := gD g) (ci := 3) (v := .int (nI ec)) (C := RX3) (T := TX3) (N := 12) hx hb hts iX3 hown hK.1 hP 0 rfl rfl 4 (by decide) f48 (fun _ h9 => h9) rfl dX3_seal_20 ?_
    refine lv_bipush (v := nI (24)) hx hb dX3_seal_23 (by decide +kernel) ?_
    refine br_eq (a := ec) (b := 24) (tgt := 37) hx hb (by omega) (by omega) dX3_seal_25 (by decide) (fun c25 => ?_) (fun c25 => ?_)
    · refine lv_aload_n hx hb dX3_seal_37 rfl (lv_at hl 0 rfl) ?_
      refine lv_iconst (v := 2) hx hb dX3_seal_38 (by decide +kernel) ?_
      refine w_V (As := [.int (2)]) (rest := []) S (c_X3_no l g h X V 0 lc ec (2)) (cwV 1 hts gX3_seal_X3_no rfl rfl rfl (by decide +kernel) ⟨Nat.le_of_ble_eq_true rfl, Nat.le_of_ble_eq_true rfl⟩) hK (va_recv hK.1 hP (ci := 3) (q0 := 0) rfl rfl) hP (hD.weaken (fun _ _ _ _ => trivial)) hS (wA_D hD [0, 1, 2, 3, 4, 5, 6, 7, 8, 9] rfl) rfl hl.1 rfl (Nat.le_of_ble_eq_true rfl) dX3_seal_39 ⟨Nat.le_of_ble_eq_true rfl, Nat.le_of_ble_eq_true rfl⟩ (fun H locs hP1 hz1 hk1 hS => ?_)
      have hP : va_P (gD g) vwCl [(h, .inr (3, [.int (2), .int (nI lc), .ref (X 0), .ref (X 1), .int (nI ec), .ref (X 2), .ref (X 3), .ref (X 4), .ref (X 5), .ref (X 6), .ref (X 7), .ref (X 8)])), (X 0, .inl (gI g, 12, .inl (V 0))), (X 1, .inl (gI g, 480, .inl (V 1))), (X 2, .inl (gI g, 24, .inl (V 2))), (X 3, .inl (gI g, 24, .inl (V 3))), (X 4, .inl (gI g, 24, .inl (V 4))), (X 5, .inl (gI g, 192, .inl (V 5))), (X 6, .inl (gI g, 24, .inl (V 6))), (X 7, .inl (gI g, 24, .inl (V 7))), (X 8, .inl (gI g, 24, .inl (V 8)))] H := hP1
      have hD : va_D A [(h, .inr (3, [.int (2), .int (nI lc), .ref (X 0), .ref (X 1), .int (nI ec), .ref (X 2), .ref (X 3), .ref (X 4), .ref (X 5), .ref (X 6), .ref (X 7), .ref (X 8)])), (X 0, .inl (gI g, 12, .inl (V 0))), (X 1, .inl (gI g, 480, .inl (V 1))), (X 2, .inl (gI g, 24, .inl (V 2))), (X 3, .inl (gI g, 24, .inl (V 3))), (X 4, .inl (gI g, 24, .inl (V 4))), (X 5, .inl (gI g, 192, .inl (V 5))), (X 6, .inl (gI g, 24, .inl (V 6))), (X 7, .inl (gI g, 24, .inl (V 7))), (X 8, .inl (gI g, 24, .inl (V 8)))] := D_same hD rfl
      exact hret _ _ _ _ hP hS dX3_seal_42
    · omega
  · exact absurd c10 (by rw [hgk]; decide)

set_option maxHeartbeats 4000000 in
set_option maxRecDepth 100000 in
/-- seal_2b -/
theorem c_X3_seal_2b (l : Launch) (g : gT) (h : Nat) (X : Nat → Nat) (V : Nat → Nat → Int32) (th : Int32) (lc ec : Nat) (NN : Nat → Nat) (hlc : lc ≤ 12) (hec : ec ≤ 24) (hNN : ∀ i, i < lc → V 0 i = nI (NN i) ∧ NN i ≤ 40) (k : Nat) (hk : k < lc) (he1 : ec < 24) (hn1 : NN k = 0) : wM g l yX3_seal wsX3_seal { frames := 3, cells := 0, slots := 0, locals := 68 } [.ref (h), .int (nI k)] (mdW g h X V th lc ec) (some (.int (0))) (mdW g h X V 2 lc ec) := by
  refine wr_ofI (cc := cX3_seal) (maxL := 4) (by decide) rfl (Nat.le_of_ble_eq_true rfl) ?_
  intro p e s m args below meth c H0 ls A Q hx hb hml hts hown hK hP hD hS hl hret
  have hl : lv_has ls 4 [(0, .ref (h)), (1, .int (nI k))] := hl
  have S : CallFix p m c cX3_seal 4 s args wsX3_seal RX3 := ⟨hx, hb, hml, hown, hts⟩
  have hgk : inB (nI k) lc = true := inB_nI hk (by omega)
  have hVn := (hNN k hk).1
  have hn := (hNN k hk).2
  have iX3 : ∀ w ∈ u_ws RX3 TX3 12, w ∈ wsX3_seal := by decide +kernel
  have f9 := hts (.fieldLink RX3 9 "LetterSealsModel" "many" "[I") (by decide +kernel)
  have f37 := hts (.fieldLink RX3 37 "LetterSealsModel" "thrown" "I") (by decide +kernel)
  have f48 := hts (.fieldLink RX3 48 "LetterSealsModel" "envelopes" "I") (by decide +kernel)
  obtain ⟨H, eH⟩ : ∃ H : Heap, H = H0 := ⟨_, rfl⟩
  rw [← eH] at hP ⊢
  have hS : va_S A H0 H [] := by rw [eH]; exact hS
  have hP : va_P (gD g) vwCl [(h, .inr (3, [.int (th), .int (nI lc), .ref (X 0), .ref (X 1), .int (nI ec), .ref (X 2), .ref (X 3), .ref (X 4), .ref (X 5), .ref (X 6), .ref (X 7), .ref (X 8)])), (X 0, .inl (gI g, 12, .inl (V 0))), (X 1, .inl (gI g, 480, .inl (V 1))), (X 2, .inl (gI g, 24, .inl (V 2))), (X 3, .inl (gI g, 24, .inl (V 3))), (X 4, .inl (gI g, 24, .inl (V 4))), (X 5, .inl (gI g, 192, .inl (V 5))), (X 6, .inl (gI g, 24, .inl (V 6))), (X 7, .inl (gI g, 24, .inl (V 7))), (X 8, .inl (gI g, 24, .inl (V 8)))] H := hP
  have hD : va_D A [(h, .inr (3, [.int (th), .int (nI lc), .ref (X 0), .ref (X 1), .int (nI ec), .ref (X 2), .ref (X 3), .ref (X 4), .ref (X 5), .ref (X 6), .ref (X 7), .ref (X 8)])), (X 0, .inl (gI g, 12, .inl (V 0))), (X 1, .inl (gI g, 480, .inl (V 1))), (X 2, .inl (gI g, 24, .inl (V 2))), (X 3, .inl (gI g, 24, .inl (V 3))), (X 4, .inl (gI g, 24, .inl (V 4))), (X 5, .inl (gI g, 192, .inl (V 5))), (X 6, .inl (gI g, 24, .inl (V 6))), (X 7, .inl (gI g, 24, .inl (V 7))), (X 8, .inl (gI g, 24, .inl (V 8)))] := hD
  refine lv_aload_n hx hb dX3_seal_0 rfl (lv_at hl 0 rfl) ?_
  refine lv_iconst (v := 0) hx hb dX3_seal_1 (by decide +kernel) ?_
  refine va_put (D := gD g) (ci := 3) (v := .int (0)) (ty := .int) (C := RX3) (T := TX3) (N := 12) hx hb hts iX3 tyX3 tyX3_ok nmX3 hown hK.1 hP hD hS 0 rfl rfl 0 (by decide) f37 (fun _ h9 => h9) rfl (by decide +kernel) rfl rfl (Nat.le_of_ble_eq_true rfl) dX3_seal_2 (fun H locs hP hD hS => ?_)
  have hP : va_P (gD g) vwCl [(h, .inr (3, [.int (0), .int (nI lc), .ref (X 0), .ref (X 1), .int (nI ec), .ref (X 2), .ref (X 3), .ref (X 4), .ref (X 5), .ref (X 6), .ref (X 7), .ref (X 8)])), (X 0, .inl (gI g, 12, .inl (V 0))), (X 1, .inl (gI g, 480, .inl (V 1))), (X 2, .inl (gI g, 24, .inl (V 2))), (X 3, .inl (gI g, 24, .inl (V 3))), (X 4, .inl (gI g, 24, .inl (V 4))), (X 5, .inl (gI g, 192, .inl (V 5))), (X 6, .inl (gI g, 24, .inl (V 6))), (X 7, .inl (gI g, 24, .inl (V 7))), (X 8, .inl (gI g, 24, .inl (V 8)))] H := hP
  have hD : va_D A [(h, .inr (3, [.int (0), .int (nI lc), .ref (X 0), .ref (X 1), .int (nI ec), .ref (X 2), .ref (X 3), .ref (X 4), .ref (X 5), .ref (X 6), .ref (X 7), .ref (X 8)])), (X 0, .inl (gI g, 12, .inl (V 0))), (X 1, .inl (gI g, 480, .inl (V 1))), (X 2, .inl (gI g, 24, .inl (V 2))), (X 3, .inl (gI g, 24, .inl (V 3))), (X 4, .inl (gI g, 24, .inl (V 4))), (X 5, .inl (gI g, 192, .inl (V 5))), (X 6, .inl (gI g, 24, .inl (V 6))), (X 7, .inl (gI g, 24, .inl (V 7))), (X 8, .inl (gI g, 24, .inl (V 8)))] := hD
  refine lv_aload_n hx hb dX3_seal_5 rfl (lv_at hl 0 rfl) ?_
  refine lv_iload_n hx hb dX3_seal_6 rfl (lv_at hl 1 rfl) ?_
  refine p_V (As := [.int (nI k)]) (rest := []) S (c_X3_isLetter l g h X V 0 lc ec (nI k) hlc hec) (cwV 1 hts gX3_seal_X3_isLetter rfl rfl rfl (by decide +kernel) ⟨Nat.le_of_ble_eq_true rfl, Nat.le_of_ble_eq_true rfl⟩) hK (va_recv hK.1 hP (ci := 3) (q0 := 0) rfl rfl) (hP) rfl hl.1 rfl (Nat.le_of_ble_eq_true rfl) dX3_seal_7 ⟨Nat.le_of_ble_eq_true rfl, Nat.le_of_ble_eq_true rfl⟩ ?_
  refine br_neB (tgt := 19) hx hb dX3_seal_10 (by decide) (fun c10 => ?_) (fun c10 => ?_)
  · refine lv_aload_n hx hb dX3_seal_19 rfl (lv_at hl 0 rfl) ?_
    refine va_get (D := gD g) (ci := 3) (v := .int (nI ec)) (C := RX3) (T := TX3) (N := 12) hx hb hts iX3 hown hK.1 hP 0 rfl rfl 4 (by decide) f48 (fun _ h9 => h9) rfl dX3_seal_20 ?_
    refine lv_bipush (v := nI (24)) hx hb dX3_seal_23 (by decide +kernel) ?_
    refine br_eq (a := ec) (b := 24) (tgt := 37) hx hb (by omega) (by omega) dX3_seal_25 (by decide) (fun c25 => ?_) (fun c25 => ?_)
    · omega
    · refine lv_aload_n hx hb dX3_seal_28 rfl (lv_at hl 0 rfl) ?_
      refine va_get (D := gD g) (ci := 3) (v := .ref (X 0)) (C := RX3) (T := TX3) (N := 12) hx hb hts iX3 hown hK.1 hP 0 rfl rfl 2 (by decide) f9 (fun _ h9 => h9) rfl dX3_seal_29 ?_
      refine lv_iload_n hx hb dX3_seal_32 rfl (lv_at hl 1 rfl) ?_
      refine ld_I (k := k) (n := 12) (f := V 0) hx hb hK.1 hP 1 rfl (by omega) (by omega) dX3_seal_33 ?_
      refine lv_toI (z := nI (NN k)) (hVn) ?_
      refine br_ne0 (a := NN k) (tgt := 43) hx hb (by omega) dX3_seal_34 (by decide) (fun c34 => ?_) (fun c34 => ?_)
      · omega
      · refine lv_aload_n hx hb dX3_seal_37 rfl (lv_at hl 0 rfl) ?_
        refine lv_iconst (v := 2) hx hb dX3_seal_38 (by decide +kernel) ?_
        refine w_V (As := [.int (2)]) (rest := []) S (c_X3_no l g h X V 0 lc ec (2)) (cwV 1 hts gX3_seal_X3_no rfl rfl rfl (by decide +kernel) ⟨Nat.le_of_ble_eq_true rfl, Nat.le_of_ble_eq_true rfl⟩) hK (va_recv hK.1 hP (ci := 3) (q0 := 0) rfl rfl) hP (hD.weaken (fun _ _ _ _ => trivial)) hS (wA_D hD [0, 1, 2, 3, 4, 5, 6, 7, 8, 9] rfl) rfl hl.1 rfl (Nat.le_of_ble_eq_true rfl) dX3_seal_39 ⟨Nat.le_of_ble_eq_true rfl, Nat.le_of_ble_eq_true rfl⟩ (fun H locs hP1 hz1 hk1 hS => ?_)
        have hP : va_P (gD g) vwCl [(h, .inr (3, [.int (2), .int (nI lc), .ref (X 0), .ref (X 1), .int (nI ec), .ref (X 2), .ref (X 3), .ref (X 4), .ref (X 5), .ref (X 6), .ref (X 7), .ref (X 8)])), (X 0, .inl (gI g, 12, .inl (V 0))), (X 1, .inl (gI g, 480, .inl (V 1))), (X 2, .inl (gI g, 24, .inl (V 2))), (X 3, .inl (gI g, 24, .inl (V 3))), (X 4, .inl (gI g, 24, .inl (V 4))), (X 5, .inl (gI g, 192, .inl (V 5))), (X 6, .inl (gI g, 24, .inl (V 6))), (X 7, .inl (gI g, 24, .inl (V 7))), (X 8, .inl (gI g, 24, .inl (V 8)))] H := hP1
        have hD : va_D A [(h, .inr (3, [.int (2), .int (nI lc), .ref (X 0), .ref (X 1), .int (nI ec), .ref (X 2), .ref (X 3), .ref (X 4), .ref (X 5), .ref (X 6), .ref (X 7), .ref (X 8)])), (X 0, .inl (gI g, 12, .inl (V 0))), (X 1, .inl (gI g, 480, .inl (V 1))), (X 2, .inl (gI g, 24, .inl (V 2))), (X 3, .inl (gI g, 24, .inl (V 3))), (X 4, .inl (gI g, 24, .inl (V 4))), (X 5, .inl (gI g, 192, .inl (V 5))), (X 6, .inl (gI g, 24, .inl (V 6))), (X 7, .inl (gI g, 24, .inl (V 7))), (X 8, .inl (gI g, 24, .inl (V 8)))] := D_same hD rfl
        exact hret _ _ _ _ hP hS dX3_seal_42
  · exact absurd c10 (by rw [hgk]; decide)

set_option maxHeartbeats 4000000 in
set_option maxRecDepth 100000 in
/-- meanSigns -/
theorem c_X3_meanSigns (l : Launch) (g : gT) (h : Nat) (X : Nat → Nat) (V : Nat → Nat → Int32) (th : Int32) (lc ec : Nat) (NN : Nat → Nat) (hlc : lc ≤ 12) (hec : ec ≤ 24) (hNN : ∀ i, i < lc → V 0 i = nI (NN i) ∧ NN i ≤ 40) : wM g l yX3_meanSigns wsX3_meanSigns { frames := 0, cells := 0, slots := 0, locals := 0 } [.ref (h)] (mdW g h X V th lc ec) (some (.double (mnD lc (sN NN lc)))) (mdW g h X V 0 lc ec) := by
  refine wr_ofD (cc := cX3_meanSigns) (maxL := 3) (by decide) rfl (Nat.le_of_ble_eq_true rfl) ?_
  intro p e s m args below meth c H0 ls A Q hx hb hml hts hown hK hP hD hS hl hret
  have hl : lv_has ls 3 [(0, .ref (h))] := hl
  have S : CallFix p m c cX3_meanSigns 3 s args wsX3_meanSigns RX3 := ⟨hx, hb, hml, hown, hts⟩
  have hs : ∀ i, i ≤ lc → sN NN i ≤ i * 40 := fun i hi => sN_le fun j hj => (hNN j (by omega)).2
  have hsl := hs lc (Nat.le_refl lc)
  have iX3 : ∀ w ∈ u_ws RX3 TX3 12, w ∈ wsX3_meanSigns := by decide +kernel
  have f9 := hts (.fieldLink RX3 9 "LetterSealsModel" "many" "[I") (by decide +kernel)
  have f37 := hts (.fieldLink RX3 37 "LetterSealsModel" "thrown" "I") (by decide +kernel)
  have f41 := hts (.fieldLink RX3 41 "LetterSealsModel" "letters" "I") (by decide +kernel)
  obtain ⟨H, eH⟩ : ∃ H : Heap, H = H0 := ⟨_, rfl⟩
  rw [← eH] at hP ⊢
  have hS : va_S A H0 H [] := by rw [eH]; exact hS
  have hP : va_P (gD g) vwCl [(h, .inr (3, [.int (th), .int (nI lc), .ref (X 0), .ref (X 1), .int (nI ec), .ref (X 2), .ref (X 3), .ref (X 4), .ref (X 5), .ref (X 6), .ref (X 7), .ref (X 8)])), (X 0, .inl (gI g, 12, .inl (V 0))), (X 1, .inl (gI g, 480, .inl (V 1))), (X 2, .inl (gI g, 24, .inl (V 2))), (X 3, .inl (gI g, 24, .inl (V 3))), (X 4, .inl (gI g, 24, .inl (V 4))), (X 5, .inl (gI g, 192, .inl (V 5))), (X 6, .inl (gI g, 24, .inl (V 6))), (X 7, .inl (gI g, 24, .inl (V 7))), (X 8, .inl (gI g, 24, .inl (V 8)))] H := hP
  have hD : va_D A [(h, .inr (3, [.int (th), .int (nI lc), .ref (X 0), .ref (X 1), .int (nI ec), .ref (X 2), .ref (X 3), .ref (X 4), .ref (X 5), .ref (X 6), .ref (X 7), .ref (X 8)])), (X 0, .inl (gI g, 12, .inl (V 0))), (X 1, .inl (gI g, 480, .inl (V 1))), (X 2, .inl (gI g, 24, .inl (V 2))), (X 3, .inl (gI g, 24, .inl (V 3))), (X 4, .inl (gI g, 24, .inl (V 4))), (X 5, .inl (gI g, 192, .inl (V 5))), (X 6, .inl (gI g, 24, .inl (V 6))), (X 7, .inl (gI g, 24, .inl (V 7))), (X 8, .inl (gI g, 24, .inl (V 8)))] := hD
  refine lv_aload_n hx hb dX3_meanSigns_0 rfl (lv_at hl 0 rfl) ?_
  refine lv_iconst (v := 0) hx hb dX3_meanSigns_1 (by decide +kernel) ?_
  refine va_put (D := gD g) (ci := 3) (v := .int (0)) (ty := .int) (C := RX3) (T := TX3) (N := 12) hx hb hts iX3 tyX3 tyX3_ok nmX3 hown hK.1 hP hD hS 0 rfl rfl 0 (by decide) f37 (fun _ h9 => h9) rfl (by decide +kernel) rfl rfl (Nat.le_of_ble_eq_true rfl) dX3_meanSigns_2 (fun H locs hP hD hS => ?_)
  have hP : va_P (gD g) vwCl [(h, .inr (3, [.int (0), .int (nI lc), .ref (X 0), .ref (X 1), .int (nI ec), .ref (X 2), .ref (X 3), .ref (X 4), .ref (X 5), .ref (X 6), .ref (X 7), .ref (X 8)])), (X 0, .inl (gI g, 12, .inl (V 0))), (X 1, .inl (gI g, 480, .inl (V 1))), (X 2, .inl (gI g, 24, .inl (V 2))), (X 3, .inl (gI g, 24, .inl (V 3))), (X 4, .inl (gI g, 24, .inl (V 4))), (X 5, .inl (gI g, 192, .inl (V 5))), (X 6, .inl (gI g, 24, .inl (V 6))), (X 7, .inl (gI g, 24, .inl (V 7))), (X 8, .inl (gI g, 24, .inl (V 8)))] H := hP
  have hD : va_D A [(h, .inr (3, [.int (0), .int (nI lc), .ref (X 0), .ref (X 1), .int (nI ec), .ref (X 2), .ref (X 3), .ref (X 4), .ref (X 5), .ref (X 6), .ref (X 7), .ref (X 8)])), (X 0, .inl (gI g, 12, .inl (V 0))), (X 1, .inl (gI g, 480, .inl (V 1))), (X 2, .inl (gI g, 24, .inl (V 2))), (X 3, .inl (gI g, 24, .inl (V 3))), (X 4, .inl (gI g, 24, .inl (V 4))), (X 5, .inl (gI g, 192, .inl (V 5))), (X 6, .inl (gI g, 24, .inl (V 6))), (X 7, .inl (gI g, 24, .inl (V 7))), (X 8, .inl (gI g, 24, .inl (V 8)))] := hD
  refine lv_iconst (v := nI (0)) hx hb dX3_meanSigns_5 (by decide +kernel) ?_
  refine lv_istore_n (lv' := [(1, .int (nI (0))), (0, .ref (h))]) hx hb dX3_meanSigns_6 rfl hl (by decide) rfl (fun ls hl => ?_)
  refine lv_iconst (v := nI (0)) hx hb dX3_meanSigns_7 (by decide +kernel) ?_
  refine lv_istore_n (lv' := [(2, .int (nI (0))), (1, .int (nI (0))), (0, .ref (h))]) hx hb dX3_meanSigns_8 rfl hl (by decide) rfl (fun ls hl => ?_)
  have L9 : ∀ (k1 i : Nat) (ls : Array Slot), lc - i < k1 → i ≤ lc → lv_has ls 3 [(2, .int (nI i)), (1, .int (nI (sN NN i))), (0, .ref (h))] → W p l e { frames := 0, cells := 0, slots := 0, locals := 0 } s m args below meth c H locs 0 0 Q (F0 m 9 ls []) := by
    intro k1
    induction k1 with
    | zero => intro i ls hFu; exact absurd hFu (Nat.not_lt_zero _)
    | succ k1 ih1 =>
      intro i ls hFu hLe hl
      refine lv_iload_n hx hb dX3_meanSigns_9 rfl (lv_at hl 0 rfl) ?_
      refine lv_aload_n hx hb dX3_meanSigns_10 rfl (lv_at hl 2 rfl) ?_
      refine va_get (D := gD g) (ci := 3) (v := .int (nI lc)) (C := RX3) (T := TX3) (N := 12) hx hb hts iX3 hown hK.1 hP 0 rfl rfl 1 (by decide) f41 (fun _ h9 => h9) rfl dX3_meanSigns_11 ?_
      refine br_ge (a := i) (b := lc) (tgt := 32) hx hb (by omega) (by omega) dX3_meanSigns_14 (by decide) (fun c14 => ?_) (fun c14 => ?_)
      · have e_i : i = lc := by omega
        rw [e_i] at hl
        refine lv_aload_n hx hb dX3_meanSigns_32 rfl (lv_at hl 2 rfl) ?_
        refine va_get (D := gD g) (ci := 3) (v := .int (nI lc)) (C := RX3) (T := TX3) (N := 12) hx hb hts iX3 hown hK.1 hP 0 rfl rfl 1 (by decide) f41 (fun _ h9 => h9) rfl dX3_meanSigns_33 ?_
        refine br_ne0 (a := lc) (tgt := 43) hx hb (by omega) dX3_meanSigns_36 (by decide) (fun c36 => ?_) (fun c36 => ?_)
        · refine lv_iload_n hx hb dX3_meanSigns_43 rfl (lv_at hl 1 rfl) ?_
          refine lv_i2d hx hb dX3_meanSigns_44 ?_
          refine lv_aload_n hx hb dX3_meanSigns_45 rfl (lv_at hl 2 rfl) ?_
          refine va_get (D := gD g) (ci := 3) (v := .int (nI lc)) (C := RX3) (T := TX3) (N := 12) hx hb hts iX3 hown hK.1 hP 0 rfl rfl 1 (by decide) f41 (fun _ h9 => h9) rfl dX3_meanSigns_46 ?_
          refine lv_i2d hx hb dX3_meanSigns_49 ?_
          refine lv_ddiv hx hb dX3_meanSigns_50 (mean_ok (by omega) (by omega) c36) ?_
          refine lv_toD (z := mnD lc (sN NN lc)) (by first | exact (if_pos c36).symm | exact (if_neg c36).symm) ?_
          exact hret _ _ _ _ hP hS dX3_meanSigns_51
        · refine lv_dconst0 hx hb dX3_meanSigns_39 ?_
          refine lv_goto (tgt := 51) hx hb dX3_meanSigns_40 (by decide) ?_
          refine lv_toD (z := mnD lc (sN NN lc)) (by first | exact (if_pos c36).symm | exact (if_neg c36).symm) ?_
          exact hret _ _ _ _ hP hS dX3_meanSigns_51
      · refine lv_iload_n hx hb dX3_meanSigns_17 rfl (lv_at hl 1 rfl) ?_
        refine lv_aload_n hx hb dX3_meanSigns_18 rfl (lv_at hl 2 rfl) ?_
        refine va_get (D := gD g) (ci := 3) (v := .ref (X 0)) (C := RX3) (T := TX3) (N := 12) hx hb hts iX3 hown hK.1 hP 0 rfl rfl 2 (by decide) f9 (fun _ h9 => h9) rfl dX3_meanSigns_19 ?_
        refine lv_iload_n hx hb dX3_meanSigns_22 rfl (lv_at hl 0 rfl) ?_
        refine ld_I (k := i) (n := 12) (f := V 0) hx hb hK.1 hP 1 rfl (by omega) (by omega) dX3_meanSigns_23 ?_
        refine lv_toI (z := nI (NN i)) ((hNN i c14).1) ?_
        refine lv_iadd hx hb dX3_meanSigns_24 ?_
        refine lv_toI (z := nI (sN NN i + NN i)) (nI_add _ _) ?_
        refine lv_toI (z := nI (sN NN (i + 1))) (rfl) ?_
        refine lv_istore_n (lv' := [(1, .int (nI (sN NN (i + 1)))), (2, .int (nI i)), (0, .ref (h))]) hx hb dX3_meanSigns_25 rfl hl (by decide) rfl (fun ls hl => ?_)
        refine lv_iinc (v := nI (i + 1)) (lv' := [(2, .int (nI (i + 1))), (1, .int (nI (sN NN (i + 1)))), (0, .ref (h))]) hx hb dX3_meanSigns_26 hl (k := 1) rfl (nI_1 _) (by decide) rfl (fun ls hl => ?_)
        refine lv_goto (tgt := 9) hx hb dX3_meanSigns_29 (by decide) ?_
        exact ih1 (i + 1) _ (by omega) (by omega) (lv_sub hl [0, 1, 2] rfl)
  exact L9 (lc + 1) (0) _ (by omega) (by omega) (lv_sub hl [0, 1, 2] rfl)
