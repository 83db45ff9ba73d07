set_option maxHeartbeats 4000000 in
set_option maxRecDepth 100000 in
/-- worstPlace() -/
theorem c_X1_worstPlace (l : Launch) (g : gT) (h a b : Nat) (f w : Nat → Int32) (n : Nat) (hn : n ≤ 40) : pM g l yX1_worstPlace wsX1_worstPlace { frames := 1, cells := 0, slots := 0, locals := 22 } [.ref (h)] (fun H => va_P (gD g) vwCl (ltW g h a b f w n) H) (.int ((wkS f n (dgF f n) n).1)) := by
  refine pu_ofI (cc := cX1_worstPlace) (maxL := 8) (by decide) rfl (Nat.le_of_ble_eq_true rfl) ?_
  intro p e s m args below meth c H ls Q hx hb hml hts hown hK hP hl hret
  have hl : lv_has ls 8 [(0, .ref (h))] := hl
  have S : CallFix p m c cX1_worstPlace 8 s args wsX1_worstPlace RX1 := ⟨hx, hb, hml, hown, hts⟩
  have iX1 : ∀ w ∈ u_ws RX1 TX1 3, w ∈ wsX1_worstPlace := by decide +kernel
  have f9 := hts (.fieldLink RX1 9 "LetterSeals$Letter" "signs" "[I") (by decide +kernel)
  have f18 := hts (.fieldLink RX1 18 "LetterSeals$Letter" "count" "I") (by decide +kernel)
  refine lv_aload_n hx hb dX1_worstPlace_0 rfl (lv_at hl 0 rfl) ?_
  refine p_V (As := []) (rest := []) S (c_X1_signDigest l g h a b f w n hn) (cwV 0 hts gX1_worstPlace_X1_signDigest rfl rfl rfl (by decide +kernel) ⟨Nat.le_of_ble_eq_true rfl, Nat.le_of_ble_eq_true rfl⟩) hK (va_recv hK.1 hP (ci := 1) (q0 := 0) rfl rfl) (hP) rfl hl.1 rfl (Nat.le_of_ble_eq_true rfl) dX1_worstPlace_1 ⟨Nat.le_of_ble_eq_true rfl, Nat.le_of_ble_eq_true rfl⟩ ?_
  refine lv_istore_n (lv' := [(1, .int (dgF f n)), (0, .ref (h))]) hx hb dX1_worstPlace_4 rfl hl (by decide) rfl (fun ls hl => ?_)
  refine lv_iconst (v := (-1)) hx hb dX1_worstPlace_5 (by decide +kernel) ?_
  refine lv_istore_n (lv' := [(2, .int ((-1))), (1, .int (dgF f n)), (0, .ref (h))]) hx hb dX1_worstPlace_6 rfl hl (by decide) rfl (fun ls hl => ?_)
  refine lv_iconst (v := 0) hx hb dX1_worstPlace_7 (by decide +kernel) ?_
  refine lv_istore_n (lv' := [(3, .int (0)), (2, .int ((-1))), (1, .int (dgF f n)), (0, .ref (h))]) hx hb dX1_worstPlace_8 rfl hl (by decide) rfl (fun ls hl => ?_)
  refine lv_iconst (v := 1) hx hb dX1_worstPlace_9 (by decide +kernel) ?_
  refine lv_istore (lv' := [(4, .int (1)), (3, .int (0)), (2, .int ((-1))), (1, .int (dgF f n)), (0, .ref (h))]) hx hb dX1_worstPlace_10 hl (by decide) rfl (fun ls hl => ?_)
  refine lv_aload_n hx hb dX1_worstPlace_12 rfl (lv_at hl 4 rfl) ?_
  refine va_get (D := gD g) (ci := 1) (v := .int (nI n)) (C := RX1) (T := TX1) (N := 3) hx hb hts iX1 hown hK.1 hP 0 rfl rfl 2 (by decide) f18 (fun _ h9 => h9) rfl dX1_worstPlace_13 ?_
  refine lv_iconst (v := 1) hx hb dX1_worstPlace_16 (by decide +kernel) ?_
  refine lv_isub hx hb dX1_worstPlace_17 ?_
  refine lv_toI (z := nI (n - 0) - 1) (rfl) ?_
  refine lv_istore (lv' := [(5, .int (nI (n - 0) - 1)), (4, .int (1)), (3, .int (0)), (2, .int ((-1))), (1, .int (dgF f n)), (0, .ref (h))]) hx hb dX1_worstPlace_18 hl (by decide) rfl (fun ls hl => ?_)
  have L20 : ∀ (k1 i : Nat) (ls : Array Slot), n - i < k1 → i ≤ n → lv_has ls 8 [(5, .int (nI (n - i) - 1)), (1, .int ((dgF f n))), (2, .int ((wkS f n (dgF f n) i).1)), (3, .int ((wkS f n (dgF f n) i).2.1)), (4, .int ((wkS f n (dgF f n) i).2.2)), (0, .ref (h))] → W p l e { frames := 1, cells := 0, slots := 0, locals := 22 } s m args below meth c H [] 0 0 Q (F0 m 20 ls []) := by
    intro k1
    induction k1 with
    | zero => intro i ls hFu; exact absurd hFu (Nat.not_lt_zero _)
    | succ k1 ih1 =>
      intro i ls hFu hLe hl
      refine lv_iload hx hb dX1_worstPlace_20 (lv_at hl 0 rfl) ?_
      refine lv_if_lt (tgt := 96) hx hb dX1_worstPlace_22 (by decide) (fun c22 => ?_) (fun c22 => ?_)
      · have e_i : i = n := by have := (pl_neg (by omega)).mp c22; omega
        rw [e_i] at hl
        refine lv_iload_n hx hb dX1_worstPlace_96 rfl (lv_at hl 2 rfl) ?_
        exact hret _ _ dX1_worstPlace_97
      · have hin : ¬ n - i = 0 := fun z => c22 ((pl_neg (by omega)).mpr z)
        have hl : lv_has ls 8 [(5, .int (nI (n - 1 - i))), (1, .int ((dgF f n))), (2, .int ((wkS f n (dgF f n) i).1)), (3, .int ((wkS f n (dgF f n) i).2.1)), (4, .int ((wkS f n (dgF f n) i).2.2)), (0, .ref (h))] := by rw [show nI (n - 1 - i) = nI (n - i) - 1 by rw [show n - i = (n - 1 - i) + 1 by omega, nI_pred]]; exact hl
        refine lv_iload_n hx hb dX1_worstPlace_25 rfl (lv_at hl 1 rfl) ?_
        refine lv_bipush (v := 30) hx hb dX1_worstPlace_26 (by decide +kernel) ?_
        refine lv_aload_n hx hb dX1_worstPlace_28 rfl (lv_at hl 5 rfl) ?_
        refine va_get (D := gD g) (ci := 1) (v := .ref (a)) (C := RX1) (T := TX1) (N := 3) hx hb hts iX1 hown hK.1 hP 0 rfl rfl 0 (by decide) f9 (fun _ h9 => h9) rfl dX1_worstPlace_29 ?_
        refine lv_iload hx hb dX1_worstPlace_32 (lv_at hl 0 rfl) ?_
        refine ld_I (k := n - 1 - i) (n := 40) (f := f) hx hb hK.1 hP 1 rfl (by omega) (by omega) dX1_worstPlace_34 ?_
        refine lv_isub hx hb dX1_worstPlace_35 ?_
        refine lv_iload hx hb dX1_worstPlace_36 (lv_at hl 4 rfl) ?_
        refine lv_imul hx hb dX1_worstPlace_38 ?_
        refine lv_iadd hx hb dX1_worstPlace_39 ?_
        refine lv_sipush (v := 8191) hx hb dX1_worstPlace_40 (by decide +kernel) ?_
        refine lv_irem hx hb dX1_worstPlace_43 (by decide +kernel) ?_
        refine lv_toI (z := tnF f (dgF f n) (wkS f n (dgF f n) i).2.2 (n - 1 - i)) (rfl) ?_
        refine lv_istore (lv' := [(6, .int (tnF f (dgF f n) (wkS f n (dgF f n) i).2.2 (n - 1 - i))), (5, .int (nI (n - 1 - i))), (1, .int ((dgF f n))), (2, .int ((wkS f n (dgF f n) i).1)), (3, .int ((wkS f n (dgF f n) i).2.1)), (4, .int ((wkS f n (dgF f n) i).2.2)), (0, .ref (h))]) hx hb dX1_worstPlace_44 hl (by decide) rfl (fun ls hl => ?_)
        refine lv_iload hx hb dX1_worstPlace_46 (lv_at hl 0 rfl) ?_
        refine lv_iload_n hx hb dX1_worstPlace_48 rfl (lv_at hl 2 rfl) ?_
        refine lv_isub hx hb dX1_worstPlace_49 ?_
        refine va_mabs (rest := []) hx hb (hml.trans hl.1.symm) hown (hts (.methodLink RX1 38 Lib.Math.abs.name) (by decide +kernel)) (hts (.static Lib.Math.abs.name) (by decide +kernel)) (hts (.initialized "java/lang/Math") (by decide +kernel)) (hts (.code Lib.Math.abs.name Lib.Math.abs.code 1 (some .int)) (by decide +kernel)) (Nat.le_of_ble_eq_true rfl) (Nat.le_of_ble_eq_true rfl) (Nat.le_of_ble_eq_true rfl) (Nat.le_of_ble_eq_true rfl) dX1_worstPlace_50 ?_
        refine lv_toI (z := ab ((tnF f (dgF f n) (wkS f n (dgF f n) i).2.2 (n - 1 - i)) - ((dgF f n)))) rfl ?_
        refine lv_toI (z := ab (tnF f (dgF f n) (wkS f n (dgF f n) i).2.2 (n - 1 - i) - (dgF f n))) (rfl) ?_
        refine lv_istore (lv' := [(7, .int (ab (tnF f (dgF f n) (wkS f n (dgF f n) i).2.2 (n - 1 - i) - (dgF f n)))), (6, .int (tnF f (dgF f n) (wkS f n (dgF f n) i).2.2 (n - 1 - i))), (5, .int (nI (n - 1 - i))), (1, .int ((dgF f n))), (2, .int ((wkS f n (dgF f n) i).1)), (3, .int ((wkS f n (dgF f n) i).2.1)), (4, .int ((wkS f n (dgF f n) i).2.2)), (0, .ref (h))]) hx hb dX1_worstPlace_53 hl (by decide) rfl (fun ls hl => ?_)
        refine lv_aload_n hx hb dX1_worstPlace_55 rfl (lv_at hl 7 rfl) ?_
        refine va_get (D := gD g) (ci := 1) (v := .ref (a)) (C := RX1) (T := TX1) (N := 3) hx hb hts iX1 hown hK.1 hP 0 rfl rfl 0 (by decide) f9 (fun _ h9 => h9) rfl dX1_worstPlace_56 ?_
        refine lv_iload hx hb dX1_worstPlace_59 (lv_at hl 2 rfl) ?_
        refine ld_I (k := n - 1 - i) (n := 40) (f := f) hx hb hK.1 hP 1 rfl (by omega) (by omega) dX1_worstPlace_61 ?_
        refine lv_bipush (v := 30) hx hb dX1_worstPlace_62 (by decide +kernel) ?_
        refine lv_icmp_eq (tgt := 79) hx hb dX1_worstPlace_64 (by decide) (fun c64 => ?_) (fun c64 => ?_)
        · refine lv_iload hx hb dX1_worstPlace_79 (lv_at hl 6 rfl) ?_
          refine lv_bipush (v := 37) hx hb dX1_worstPlace_81 (by decide +kernel) ?_
          refine lv_imul hx hb dX1_worstPlace_83 ?_
          refine lv_sipush (v := 8191) hx hb dX1_worstPlace_84 (by decide +kernel) ?_
          refine lv_irem hx hb dX1_worstPlace_87 (by decide +kernel) ?_
          refine lv_toI (z := rm ((wkS f n (dgF f n) i).2.2 * 37) 8191) (rfl) ?_
          refine lv_istore (lv' := [(4, .int (rm ((wkS f n (dgF f n) i).2.2 * 37) 8191)), (7, .int (ab (tnF f (dgF f n) (wkS f n (dgF f n) i).2.2 (n - 1 - i) - (dgF f n)))), (6, .int (tnF f (dgF f n) (wkS f n (dgF f n) i).2.2 (n - 1 - i))), (5, .int (nI (n - 1 - i))), (1, .int ((dgF f n))), (2, .int ((wkS f n (dgF f n) i).1)), (3, .int ((wkS f n (dgF f n) i).2.1)), (0, .ref (h))]) hx hb dX1_worstPlace_88 hl (by decide) rfl (fun ls hl => ?_)
          have hl : lv_has ls 8 [(4, .int ((wkS f n (dgF f n) (i + 1)).2.2)), (7, .int (ab (tnF f (dgF f n) (wkS f n (dgF f n) i).2.2 (n - 1 - i) - (dgF f n)))), (6, .int (tnF f (dgF f n) (wkS f n (dgF f n) i).2.2 (n - 1 - i))), (5, .int (nI (n - 1 - i))), (1, .int ((dgF f n))), (2, .int ((wkS f n (dgF f n) (i + 1)).1)), (3, .int ((wkS f n (dgF f n) (i + 1)).2.1)), (0, .ref (h))] := by rw [show (wkS f n (dgF f n) (i + 1)) = ((wkS f n (dgF f n) i).1, (wkS f n (dgF f n) i).2.1, rm ((wkS f n (dgF f n) i).2.2 * 37) 8191) by rw [wkS, if_neg (fun z => by first | exact z.1 c64 | exact z.2 c70)]]; exact hl
          refine lv_iinc (v := nI (n - (i + 1)) - 1) (lv' := [(5, .int (nI (n - (i + 1)) - 1)), (4, .int ((wkS f n (dgF f n) (i + 1)).2.2)), (7, .int (ab (tnF f (dgF f n) (wkS f n (dgF f n) i).2.2 (n - 1 - i) - (dgF f n)))), (6, .int (tnF f (dgF f n) (wkS f n (dgF f n) i).2.2 (n - 1 - i))), (1, .int ((dgF f n))), (2, .int ((wkS f n (dgF f n) (i + 1)).1)), (3, .int ((wkS f n (dgF f n) (i + 1)).2.1)), (0, .ref (h))]) hx hb dX1_worstPlace_90 hl (k := 3) rfl (by rw [show n - (i + 1) = n - 1 - i by omega, Int32.sub_eq_add_neg]; rfl) (by decide) rfl (fun ls hl => ?_)
          refine lv_goto (tgt := 20) hx hb dX1_worstPlace_93 (by decide) ?_
          exact ih1 (i + 1) _ (by omega) (by omega) (lv_sub hl [0, 4, 5, 6, 1, 7] rfl)
        · refine lv_iload hx hb dX1_worstPlace_67 (lv_at hl 0 rfl) ?_
          refine lv_iload_n hx hb dX1_worstPlace_69 rfl (lv_at hl 5 rfl) ?_
          refine lv_icmp_lt (tgt := 79) hx hb dX1_worstPlace_70 (by decide) (fun c70 => ?_) (fun c70 => ?_)
          · refine lv_iload hx hb dX1_worstPlace_79 (lv_at hl 6 rfl) ?_
            refine lv_bipush (v := 37) hx hb dX1_worstPlace_81 (by decide +kernel) ?_
            refine lv_imul hx hb dX1_worstPlace_83 ?_
            refine lv_sipush (v := 8191) hx hb dX1_worstPlace_84 (by decide +kernel) ?_
            refine lv_irem hx hb dX1_worstPlace_87 (by decide +kernel) ?_
            refine lv_toI (z := rm ((wkS f n (dgF f n) i).2.2 * 37) 8191) (rfl) ?_
            refine lv_istore (lv' := [(4, .int (rm ((wkS f n (dgF f n) i).2.2 * 37) 8191)), (7, .int (ab (tnF f (dgF f n) (wkS f n (dgF f n) i).2.2 (n - 1 - i) - (dgF f n)))), (6, .int (tnF f (dgF f n) (wkS f n (dgF f n) i).2.2 (n - 1 - i))), (5, .int (nI (n - 1 - i))), (1, .int ((dgF f n))), (2, .int ((wkS f n (dgF f n) i).1)), (3, .int ((wkS f n (dgF f n) i).2.1)), (0, .ref (h))]) hx hb dX1_worstPlace_88 hl (by decide) rfl (fun ls hl => ?_)
            have hl : lv_has ls 8 [(4, .int ((wkS f n (dgF f n) (i + 1)).2.2)), (7, .int (ab (tnF f (dgF f n) (wkS f n (dgF f n) i).2.2 (n - 1 - i) - (dgF f n)))), (6, .int (tnF f (dgF f n) (wkS f n (dgF f n) i).2.2 (n - 1 - i))), (5, .int (nI (n - 1 - i))), (1, .int ((dgF f n))), (2, .int ((wkS f n (dgF f n) (i + 1)).1)), (3, .int ((wkS f n (dgF f n) (i + 1)).2.1)), (0, .ref (h))] := by rw [show (wkS f n (dgF f n) (i + 1)) = ((wkS f n (dgF f n) i).1, (wkS f n (dgF f n) i).2.1, rm ((wkS f n (dgF f n) i).2.2 * 37) 8191) by rw [wkS, if_neg (fun z => by first | exact z.1 c64 | exact z.2 c70)]]; exact hl
            refine lv_iinc (v := nI (n - (i + 1)) - 1) (lv' := [(5, .int (nI (n - (i + 1)) - 1)), (4, .int ((wkS f n (dgF f n) (i + 1)).2.2)), (7, .int (ab (tnF f (dgF f n) (wkS f n (dgF f n) i).2.2 (n - 1 - i) - (dgF f n)))), (6, .int (tnF f (dgF f n) (wkS f n (dgF f n) i).2.2 (n - 1 - i))), (1, .int ((dgF f n))), (2, .int ((wkS f n (dgF f n) (i + 1)).1)), (3, .int ((wkS f n (dgF f n) (i + 1)).2.1)), (0, .ref (h))]) hx hb dX1_worstPlace_90 hl (k := 3) rfl (by rw [show n - (i + 1) = n - 1 - i by omega, Int32.sub_eq_add_neg]; rfl) (by decide) rfl (fun ls hl => ?_)
            refine lv_goto (tgt := 20) hx hb dX1_worstPlace_93 (by decide) ?_
            exact ih1 (i + 1) _ (by omega) (by omega) (lv_sub hl [0, 4, 5, 6, 1, 7] rfl)
          · refine lv_iload hx hb dX1_worstPlace_73 (lv_at hl 0 rfl) ?_
            refine lv_istore_n (lv' := [(3, .int (ab (tnF f (dgF f n) (wkS f n (dgF f n) i).2.2 (n - 1 - i) - (dgF f n)))), (7, .int (ab (tnF f (dgF f n) (wkS f n (dgF f n) i).2.2 (n - 1 - i) - (dgF f n)))), (6, .int (tnF f (dgF f n) (wkS f n (dgF f n) i).2.2 (n - 1 - i))), (5, .int (nI (n - 1 - i))), (1, .int ((dgF f n))), (2, .int ((wkS f n (dgF f n) i).1)), (4, .int ((wkS f n (dgF f n) i).2.2)), (0, .ref (h))]) hx hb dX1_worstPlace_75 rfl hl (by decide) rfl (fun ls hl => ?_)
            refine lv_iload hx hb dX1_worstPlace_76 (lv_at hl 3 rfl) ?_
            refine lv_istore_n (lv' := [(2, .int (nI (n - 1 - i))), (3, .int (ab (tnF f (dgF f n) (wkS f n (dgF f n) i).2.2 (n - 1 - i) - (dgF f n)))), (7, .int (ab (tnF f (dgF f n) (wkS f n (dgF f n) i).2.2 (n - 1 - i) - (dgF f n)))), (6, .int (tnF f (dgF f n) (wkS f n (dgF f n) i).2.2 (n - 1 - i))), (5, .int (nI (n - 1 - i))), (1, .int ((dgF f n))), (4, .int ((wkS f n (dgF f n) i).2.2)), (0, .ref (h))]) hx hb dX1_worstPlace_78 rfl hl (by decide) rfl (fun ls hl => ?_)
            refine lv_iload hx hb dX1_worstPlace_79 (lv_at hl 6 rfl) ?_
            refine lv_bipush (v := 37) hx hb dX1_worstPlace_81 (by decide +kernel) ?_
            refine lv_imul hx hb dX1_worstPlace_83 ?_
            refine lv_sipush (v := 8191) hx hb dX1_worstPlace_84 (by decide +kernel) ?_
            refine lv_irem hx hb dX1_worstPlace_87 (by decide +kernel) ?_
            refine lv_toI (z := rm ((wkS f n (dgF f n) i).2.2 * 37) 8191) (rfl) ?_
            refine lv_istore (lv' := [(4, .int (rm ((wkS f n (dgF f n) i).2.2 * 37) 8191)), (2, .int (nI (n - 1 - i))), (3, .int (ab (tnF f (dgF f n) (wkS f n (dgF f n) i).2.2 (n - 1 - i) - (dgF f n)))), (7, .int (ab (tnF f (dgF f n) (wkS f n (dgF f n) i).2.2 (n - 1 - i) - (dgF f n)))), (6, .int (tnF f (dgF f n) (wkS f n (dgF f n) i).2.2 (n - 1 - i))), (5, .int (nI (n - 1 - i))), (1, .int ((dgF f n))), (0, .ref (h))]) hx hb dX1_worstPlace_88 hl (by decide) rfl (fun ls hl => ?_)
            have hl : lv_has ls 8 [(4, .int ((wkS f n (dgF f n) (i + 1)).2.2)), (2, .int ((wkS f n (dgF f n) (i + 1)).1)), (3, .int ((wkS f n (dgF f n) (i + 1)).2.1)), (7, .int (ab (tnF f (dgF f n) (wkS f n (dgF f n) i).2.2 (n - 1 - i) - (dgF f n)))), (6, .int (tnF f (dgF f n) (wkS f n (dgF f n) i).2.2 (n - 1 - i))), (5, .int (nI (n - 1 - i))), (1, .int ((dgF f n))), (0, .ref (h))] := by rw [show (wkS f n (dgF f n) (i + 1)) = (nI (n - 1 - i), ab (tnF f (dgF f n) (wkS f n (dgF f n) i).2.2 (n - 1 - i) - (dgF f n)), rm ((wkS f n (dgF f n) i).2.2 * 37) 8191) by rw [wkS, if_pos ⟨c64, c70⟩]]; exact hl
            refine lv_iinc (v := nI (n - (i + 1)) - 1) (lv' := [(5, .int (nI (n - (i + 1)) - 1)), (4, .int ((wkS f n (dgF f n) (i + 1)).2.2)), (2, .int ((wkS f n (dgF f n) (i + 1)).1)), (3, .int ((wkS f n (dgF f n) (i + 1)).2.1)), (7, .int (ab (tnF f (dgF f n) (wkS f n (dgF f n) i).2.2 (n - 1 - i) - (dgF f n)))), (6, .int (tnF f (dgF f n) (wkS f n (dgF f n) i).2.2 (n - 1 - i))), (1, .int ((dgF f n))), (0, .ref (h))]) hx hb dX1_worstPlace_90 hl (k := 5) rfl (by rw [show n - (i + 1) = n - 1 - i by omega, Int32.sub_eq_add_neg]; rfl) (by decide) rfl (fun ls hl => ?_)
            refine lv_goto (tgt := 20) hx hb dX1_worstPlace_93 (by decide) ?_
            exact ih1 (i + 1) _ (by omega) (by omega) (lv_sub hl [0, 6, 2, 3, 1, 7] rfl)
  exact L20 (n + 1) (0) _ (by omega) (by omega) (lv_sub hl [0, 4, 3, 2, 1, 5] rfl)
