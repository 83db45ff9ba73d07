/-! THE LAW: in the end both desks are alike -/
theorem fb_t {LL : Nat → ltT} {EE : Nat → evT} {LN : Nat → Nat} {r ec : Nat} (hr : r < ec) (h : ftD LL EE LN r = true) : fsF (fun q => !ftD LL EE LN q) (ec - (r + 1)) (r + 1) = fsF (fun q => !ftD LL EE LN q) (ec - r) r := by
  rw [show ec - r = (ec - (r + 1)) + 1 by omega, fsF]
  rw [h]
  rfl
theorem fb_f {LL : Nat → ltT} {EE : Nat → evT} {LN : Nat → Nat} {r ec : Nat} (hr : r < ec) (h : ftD LL EE LN r = false) : nI r = fsF (fun q => !ftD LL EE LN q) (ec - r) r := by
  rw [show ec - r = (ec - (r + 1)) + 1 by omega, fsF]
  rw [h]
  rfl
theorem sub1 (a : Nat) : nI a + (-1) = nI a - 1 := by rw [Int32.sub_eq_add_neg]
theorem mean_z {lc t : Nat} (h : lc = 0) : Op.cmpValue (FP.dcmp (mnD lc t) FP.dconst0) .l = 0 := by
  unfold mnD
  rw [if_pos h]
  exact mean_0
theorem mean_n {lc t : Nat} (ht : t < 481) (hc : lc < 13) (h : ¬ lc = 0) : Op.cmpValue (FP.dcmp (mnD lc t) (FP.ddiv (FP.i2d (nI t)) (FP.i2d (nI lc)))) .l = 0 := by
  unfold mnD
  rw [if_neg h]
  exact (mean_c t ht lc hc).resolve_left h

set_option maxHeartbeats 4000000 in
set_option maxRecDepth 100000 in
/-- isSame(desk) -/
theorem c_X4_isSame (l : Launch) (g : gT) (B so la ea : Nat) (ra xa ta : Nat → Nat) (AD : Nat → Nat) (LL : Nat → ltT) (EE : Nat → evT) (LN : Nat → Nat) (TT : Nat → (Nat → Int32) × Nat) (lc ec : Nat) (hI : Iv LL EE LN TT lc ec) : pM g l yX4_isSame wsX4_isSame { frames := 9, cells := 0, slots := 0, locals := 148 } [.ref (so), .ref (AD 0)] (fun H => va_P (gD g) vwCl (wsD g AD LL EE lc ec) H ∧ SW g B so la ea ra xa ta LL EE TT lc ec H) (.int (bI true)) := by
  refine pu_ofZ (cc := cX4_isSame) (maxL := 6) (bI_n _) (by decide) rfl (Nat.le_of_ble_eq_true rfl) ?_
  intro p e s m args below meth c H ls Q hx hb hml hts hown hK hP hl hret
  have hl : lv_has ls 6 [(0, .ref (so)), (1, .ref (AD 0))] := hl
  have S : CallFix p m c cX4_isSame 6 s args wsX4_isSame RX4 := ⟨hx, hb, hml, hown, hts⟩
  obtain ⟨hDk, hW⟩ := hP
  have hlc12 := hI.1
  have hec24 := hI.2.1
  have hle := fun i (hi : i < lc) => hI.le hi
  have hT : sN (fun u9 => (LL u9).2.2) lc < 481 := by
    have h9 := sN_le (NN := fun u9 => (LL u9).2.2) (c := 40) (i := lc) (fun j hj => hI.le hj)
    omega
  have iX3 : ∀ w ∈ u_ws RX3 TX3 4, w ∈ wsX4_isSame := by decide +kernel
  have iX4 : ∀ w ∈ u_ws RX4 TX4 2, w ∈ wsX4_isSame := by decide +kernel
  have f9 := hts (.fieldLink RX4 9 "LetterSealsLaw$Sim" "letters" "[[I") (by decide +kernel)
  have f17 := hts (.fieldLink RX4 17 "LetterSealsLaw$Sim" "envelopes" "[LLetterSealsLaw$Envelope;") (by decide +kernel)
  have f27 := hts (.fieldLink RX4 27 "LetterSealsLaw$Envelope" "seal" "I") (by decide +kernel)
  have f34 := hts (.fieldLink RX4 34 "LetterSealsLaw$Envelope" "letter" "I") (by decide +kernel)
  have f44 := hts (.fieldLink RX4 44 "LetterSealsLaw$Envelope" "digest" "I") (by decide +kernel)
  refine lv_iconst (v := 0) hx hb dX4_isSame_0 (by decide +kernel) ?_
  refine lv_toI (z := nI (sN (fun u9 => (LL u9).2.2) 0)) (by show (0 : Int32) = nI 0; decide +kernel) ?_
  refine lv_istore_n (lv' := [(2, .int (nI (sN (fun u9 => (LL u9).2.2) 0))), (0, .ref (so)), (1, .ref (AD 0))]) hx hb dX4_isSame_1 rfl hl (by decide) rfl (fun ls hl => ?_)
  refine lv_iconst (v := nI (0)) hx hb dX4_isSame_2 (by decide +kernel) ?_
  refine lv_istore_n (lv' := [(3, .int (nI (0))), (2, .int (nI (sN (fun u9 => (LL u9).2.2) 0))), (0, .ref (so)), (1, .ref (AD 0))]) hx hb dX4_isSame_3 rfl hl (by decide) rfl (fun ls hl => ?_)
  have L4 : ∀ (k1 i : Nat) (ls : Array Slot), lc - i < k1 → i ≤ lc → lv_has ls 6 [(3, .int (nI i)), (2, .int (nI (sN (fun u9 => (LL u9).2.2) i))), (0, .ref (so)), (1, .ref (AD 0))] → W p l e { frames := 9, cells := 0, slots := 0, locals := 148 } s m args below meth c H [] 0 0 Q (F0 m 4 ls []) := by
    intro k1
    induction k1 with
    | zero => intro i ls hFu; exact absurd hFu (Nat.not_lt_zero _)
    | succ k1 ih1 =>
      intro i ls hFu hLe hl
      refine lv_iload_n hx hb dX4_isSame_4 rfl (lv_at hl 0 rfl) ?_
      refine lv_aload_n hx hb dX4_isSame_5 rfl (lv_at hl 2 rfl) ?_
      refine va_get (D := gD g) (ci := 4) (v := .ref (la)) (C := RX4) (T := TX4) (N := 2) hx hb hts iX4 hown hK.1 hW.1.1 0 rfl rfl 0 (by decide) f9 (fun _ h9 => h9) rfl dX4_isSame_6 ?_
      refine va_alen (v := nI (lc)) hx hb hK.1 hW.1.2.1 0 3 rfl (ht := (rfl : (gTy g)[3]? = _)) rfl dX4_isSame_9 ?_
      refine br_ge (a := i) (b := lc) (tgt := 123) hx hb (by omega) (by omega) dX4_isSame_10 (by decide) (fun c10 => ?_) (fun c10 => ?_)
      · obtain rfl : lc = i := by omega
        refine lv_iconst (v := (-1)) hx hb dX4_isSame_123 (by decide +kernel) ?_
        refine lv_toI (z := fsF (fun q => !ftD LL EE LN q) (ec - ec) ec) (by rw [Nat.sub_self]; rfl) ?_
        refine lv_istore_n (lv' := [(3, .int (fsF (fun q => !ftD LL EE LN q) (ec - ec) ec)), (2, .int (nI (sN (fun u9 => (LL u9).2.2) lc))), (0, .ref (so)), (1, .ref (AD 0))]) hx hb dX4_isSame_124 rfl hl (by decide) rfl (fun ls hl => ?_)
        refine lv_aload_n hx hb dX4_isSame_125 rfl (lv_at hl 2 rfl) ?_
        refine va_get (D := gD g) (ci := 4) (v := .ref (ea)) (C := RX4) (T := TX4) (N := 2) hx hb hts iX4 hown hK.1 hW.1.1 0 rfl rfl 1 (by decide) f17 (fun _ h9 => h9) rfl dX4_isSame_126 ?_
        refine va_alen (v := nI (ec)) hx hb hK.1 hW.1.2.2 0 4 rfl (ht := (rfl : (gTy g)[4]? = _)) rfl dX4_isSame_129 ?_
        refine lv_iconst (v := nI (1)) hx hb dX4_isSame_130 (by decide +kernel) ?_
        refine lv_isub hx hb dX4_isSame_131 ?_
        refine lv_toI (z := nI (ec) - 1) (rfl) ?_
        refine lv_istore (lv' := [(4, .int (nI (ec) - 1)), (3, .int (fsF (fun q => !ftD LL EE LN q) (ec - ec) ec)), (2, .int (nI (sN (fun u9 => (LL u9).2.2) lc))), (0, .ref (so)), (1, .ref (AD 0))]) hx hb dX4_isSame_132 hl (by decide) rfl (fun ls hl => ?_)
        have L134 : ∀ (r : Nat) (ls : Array Slot), r ≤ ec → lv_has ls 6 [(4, .int (nI r - 1)), (3, .int (fsF (fun q => !ftD LL EE LN q) (ec - r) r)), (2, .int (nI (sN (fun u9 => (LL u9).2.2) lc))), (0, .ref so), (1, .ref (AD 0))] → W p l e { frames := 9, cells := 0, slots := 0, locals := 148 } s m args below meth c H [] 0 0 Q (F0 m 134 ls []) := by
          intro r
          induction r with
          | zero =>
            intro ls hr0 hl
            refine lv_iload hx hb dX4_isSame_134 (lv_at hl 0 rfl) ?_
            refine lv_if_lt (tgt := 225) hx hb dX4_isSame_136 (by decide) (fun _ => ?_) (fun c => absurd (by decide +kernel) c)
            refine lv_aload_n hx hb dX4_isSame_225 rfl (lv_at hl 4 rfl) ?_
            refine p_V (As := []) (rest := []) S (c_X2_letters l g AD LL EE LN lc ec hI.1 hI.2.1 hI.hLL hI.hEE ) (cwV 0 hts gX4_isSame_X2_letters rfl rfl rfl (by decide +kernel) ⟨Nat.le_of_ble_eq_true rfl, Nat.le_of_ble_eq_true rfl⟩) hK (va_recv hK.1 hDk (ci := 2) (q0 := 0) rfl dk_me) hDk rfl hl.1 rfl (Nat.le_of_ble_eq_true rfl) dX4_isSame_226 ⟨by show _ ≤ 0; omega, by show _ ≤ 0; omega⟩ ?_
            refine lv_aload_n hx hb dX4_isSame_229 rfl (lv_at hl 3 rfl) ?_
            refine va_get (D := gD g) (ci := 4) (v := .ref (la)) (C := RX4) (T := TX4) (N := 2) hx hb hts iX4 hown hK.1 hW.1.1 0 rfl rfl 0 (by decide) f9 (fun _ h9 => h9) rfl dX4_isSame_230 ?_
            refine va_alen (v := nI (lc)) hx hb hK.1 hW.1.2.1 0 3 rfl (ht := (rfl : (gTy g)[3]? = _)) rfl dX4_isSame_233 ?_
            refine br_ne (a := lc) (b := lc) (tgt := 290) hx hb (by omega) (by omega) dX4_isSame_234 (by decide) (fun c234 => ?_) (fun c234 => ?_)
            · exact absurd rfl c234
            · refine lv_aload_n hx hb dX4_isSame_237 rfl (lv_at hl 4 rfl) ?_
              refine p_V (As := []) (rest := []) S (c_X2_envelopes l g AD LL EE LN lc ec hI.1 hI.2.1 hI.hLL hI.hEE ) (cwV 0 hts gX4_isSame_X2_envelopes rfl rfl rfl (by decide +kernel) ⟨Nat.le_of_ble_eq_true rfl, Nat.le_of_ble_eq_true rfl⟩) hK (va_recv hK.1 hDk (ci := 2) (q0 := 0) rfl dk_me) hDk rfl hl.1 rfl (Nat.le_of_ble_eq_true rfl) dX4_isSame_238 ⟨by show _ ≤ 0; omega, by show _ ≤ 0; omega⟩ ?_
              refine lv_aload_n hx hb dX4_isSame_241 rfl (lv_at hl 3 rfl) ?_
              refine va_get (D := gD g) (ci := 4) (v := .ref (ea)) (C := RX4) (T := TX4) (N := 2) hx hb hts iX4 hown hK.1 hW.1.1 0 rfl rfl 1 (by decide) f17 (fun _ h9 => h9) rfl dX4_isSame_242 ?_
              refine va_alen (v := nI (ec)) hx hb hK.1 hW.1.2.2 0 4 rfl (ht := (rfl : (gTy g)[4]? = _)) rfl dX4_isSame_245 ?_
              refine br_ne (a := ec) (b := ec) (tgt := 290) hx hb (by omega) (by omega) dX4_isSame_246 (by decide) (fun c246 => ?_) (fun c246 => ?_)
              · exact absurd rfl c246
              · refine lv_aload_n hx hb dX4_isSame_249 rfl (lv_at hl 4 rfl) ?_
                refine p_V (As := []) (rest := []) S (c_X2_firstBroken l g AD LL EE LN lc ec hI.1 hI.2.1 hI.hLL hI.hEE ) (cwV 0 hts gX4_isSame_X2_firstBroken rfl rfl rfl (by decide +kernel) ⟨Nat.le_of_ble_eq_true rfl, Nat.le_of_ble_eq_true rfl⟩) hK (va_recv hK.1 hDk (ci := 2) (q0 := 0) rfl dk_me) hDk rfl hl.1 rfl (Nat.le_of_ble_eq_true rfl) dX4_isSame_250 ⟨by show _ ≤ 0; omega, by show _ ≤ 0; omega⟩ ?_
                refine lv_iload_n hx hb dX4_isSame_253 rfl (lv_at hl 1 rfl) ?_
                refine lv_icmp_ne (tgt := 290) hx hb dX4_isSame_254 (by decide) (fun c254 => ?_) (fun c254 => ?_)
                · exact absurd rfl c254
                · refine lv_aload_n hx hb dX4_isSame_257 rfl (lv_at hl 4 rfl) ?_
                  refine p_V (As := []) (rest := []) S (c_X2_meanSigns l g AD LL EE LN lc ec hI.1 hI.2.1 hI.hLL hI.hEE ) (cwV 0 hts gX4_isSame_X2_meanSigns rfl rfl rfl (by decide +kernel) ⟨Nat.le_of_ble_eq_true rfl, Nat.le_of_ble_eq_true rfl⟩) hK (va_recv hK.1 hDk (ci := 2) (q0 := 0) rfl dk_me) hDk rfl hl.1 rfl (Nat.le_of_ble_eq_true rfl) dX4_isSame_258 ⟨by show _ ≤ 0; omega, by show _ ≤ 0; omega⟩ ?_
                  refine lv_aload_n hx hb dX4_isSame_261 rfl (lv_at hl 3 rfl) ?_
                  refine va_get (D := gD g) (ci := 4) (v := .ref (la)) (C := RX4) (T := TX4) (N := 2) hx hb hts iX4 hown hK.1 hW.1.1 0 rfl rfl 0 (by decide) f9 (fun _ h9 => h9) rfl dX4_isSame_262 ?_
                  refine va_alen (v := nI (lc)) hx hb hK.1 hW.1.2.1 0 3 rfl (ht := (rfl : (gTy g)[3]? = _)) rfl dX4_isSame_265 ?_
                  refine br_ne0 (a := lc) (tgt := 273) hx hb (by omega) dX4_isSame_266 (by decide) (fun c266 => ?_) (fun c266 => ?_)
                  · refine lv_iload_n hx hb dX4_isSame_273 rfl (lv_at hl 2 rfl) ?_
                    refine lv_i2d hx hb dX4_isSame_274 ?_
                    refine lv_aload_n hx hb dX4_isSame_275 rfl (lv_at hl 3 rfl) ?_
                    refine va_get (D := gD g) (ci := 4) (v := .ref (la)) (C := RX4) (T := TX4) (N := 2) hx hb hts iX4 hown hK.1 hW.1.1 0 rfl rfl 0 (by decide) f9 (fun _ h9 => h9) rfl dX4_isSame_276 ?_
                    refine va_alen (v := nI (lc)) hx hb hK.1 hW.1.2.1 0 3 rfl (ht := (rfl : (gTy g)[3]? = _)) rfl dX4_isSame_279 ?_
                    refine lv_i2d hx hb dX4_isSame_280 ?_
                    refine lv_ddiv hx hb dX4_isSame_281 (mean_ok hT (by omega) (by omega)) ?_
                    refine lv_dcmp hx hb dX4_isSame_282 ?_
                    refine lv_toI (z := 0) (mean_n hT (by omega) (by omega)) ?_
                    refine lv_if_ne (tgt := 290) hx hb dX4_isSame_283 (by decide) (fun c283 => ?_) (fun c283 => ?_)
                    · exact absurd rfl c283
                    · refine lv_iconst (v := bI true) hx hb dX4_isSame_286 (by decide +kernel) ?_
                      refine lv_goto (tgt := 291) hx hb dX4_isSame_287 (by decide) ?_
                      exact hret _ _ dX4_isSame_291
                  · refine lv_dconst0 hx hb dX4_isSame_269 ?_
                    refine lv_goto (tgt := 282) hx hb dX4_isSame_270 (by decide) ?_
                    refine lv_dcmp hx hb dX4_isSame_282 ?_
                    refine lv_toI (z := 0) (mean_z (by omega)) ?_
                    refine lv_if_ne (tgt := 290) hx hb dX4_isSame_283 (by decide) (fun c283 => ?_) (fun c283 => ?_)
                    · exact absurd rfl c283
                    · refine lv_iconst (v := bI true) hx hb dX4_isSame_286 (by decide +kernel) ?_
                      refine lv_goto (tgt := 291) hx hb dX4_isSame_287 (by decide) ?_
                      exact hret _ _ dX4_isSame_291
          | succ r ih =>
            intro ls hr0 hl
            have e9 : nI (r + 1) - 1 = nI r := by rw [← nI_1, Int32.add_sub_cancel]
            rw [e9] at hl
            refine lv_iload hx hb dX4_isSame_134 (lv_at hl 0 rfl) ?_
            refine br_lt0 (a := r) (tgt := 225) hx hb (by omega) dX4_isSame_136 (by decide) (fun c => c.elim) (fun _ => ?_)
            have hLN := (hI.hEE r (by omega)).2.1
            refine lv_aload_n hx hb dX4_isSame_139 rfl (lv_at hl 3 rfl) ?_
            refine va_get (D := gD g) (ci := 4) (v := .ref (ea)) (C := RX4) (T := TX4) (N := 2) hx hb hts iX4 hown hK.1 hW.1.1 0 rfl rfl 1 (by decide) f17 (fun _ h9 => h9) rfl dX4_isSame_140 ?_
            refine lv_iload hx hb dX4_isSame_143 (lv_at hl 0 rfl) ?_
            refine gt_V (k := r) (r := xa r) hx hb hK hW.1.2.2 rfl (by omega) (by omega) dX4_isSame_145 ?_
            refine lv_astore (lv' := [(5, .ref (xa r)), (4, .int (nI (r))), (3, .int (fsF (fun q => !ftD LL EE LN q) (ec - (r + 1)) (r + 1))), (2, .int (nI (sN (fun u9 => (LL u9).2.2) lc))), (0, .ref (so)), (1, .ref (AD 0))]) hx hb dX4_isSame_146 hl (by decide) rfl (fun ls hl => ?_)
            refine lv_aload_n hx hb dX4_isSame_148 rfl (lv_at hl 4 rfl) ?_
            refine lv_aload hx hb dX4_isSame_149 (lv_at hl 0 rfl) ?_
            refine p_V (As := [.ref (xa r)]) (rest := []) S (c_X4_isWhole l g B so la ea ra xa ta LL EE TT lc ec r (LN r) (by omega) (by omega) (hI.hEE r (by omega)).2.1 (hI.hEE r (by omega)).1 (hI.le (hI.hEE r (by omega)).2.1)) (cwV 1 hts gX4_isSame_X4_isWhole rfl rfl rfl (by decide +kernel) ⟨Nat.le_of_ble_eq_true rfl, Nat.le_of_ble_eq_true rfl⟩) hK (va_recv hK.1 hW.1.1 (ci := 4) (q0 := 0) rfl rfl) hW rfl hl.1 rfl (Nat.le_of_ble_eq_true rfl) dX4_isSame_151 ⟨by show _ ≤ 0; omega, by show _ ≤ 0; omega⟩ ?_
            refine lv_toI (z := bI (ftD LL EE LN r)) (rfl) ?_
            refine br_neB (tgt := 160) hx hb dX4_isSame_154 (by decide) (fun c154 => ?_) (fun c154 => ?_)
            · have hl : lv_has ls 6 [(5, .ref (xa r)), (4, .int (nI (r))), (3, .int (fsF (fun q => !ftD LL EE LN q) (ec - r) r)), (2, .int (nI (sN (fun u9 => (LL u9).2.2) lc))), (0, .ref (so)), (1, .ref (AD 0))] := by rw [← fb_t (LL := LL) (EE := EE) (LN := LN) (r := r) (ec := ec) (by omega) c154]; exact hl
              refine lv_aload_n hx hb dX4_isSame_160 rfl (lv_at hl 5 rfl) ?_
              refine lv_iload hx hb dX4_isSame_161 (lv_at hl 1 rfl) ?_
              refine p_V (As := [.int (nI (r))]) (rest := []) S (c_X2_letterIn l g AD LL EE LN lc ec hI.1 hI.2.1 hI.hLL hI.hEE r (by omega)) (cwV 1 hts gX4_isSame_X2_letterIn rfl rfl rfl (by decide +kernel) ⟨Nat.le_of_ble_eq_true rfl, Nat.le_of_ble_eq_true rfl⟩) hK (va_recv hK.1 hDk (ci := 2) (q0 := 0) rfl dk_me) hDk rfl hl.1 rfl (Nat.le_of_ble_eq_true rfl) dX4_isSame_163 ⟨by show _ ≤ 0; omega, by show _ ≤ 0; omega⟩ ?_
              refine lv_aload hx hb dX4_isSame_166 (lv_at hl 0 rfl) ?_
              refine va_get (D := gD g) (ci := 3) (v := .int ((EE r).1)) (C := RX3) (T := TX3) (N := 4) hx hb hts iX3 hown hK.1 (hW.2.2.2 r (by omega)).1 0 rfl rfl 0 (by decide) f34 (fun _ h9 => h9) rfl dX4_isSame_168 ?_
              refine lv_toI (z := nI (LN r)) ((hI.hEE r (by omega)).1) ?_
              refine br_ne (a := LN r) (b := LN r) (tgt := 217) hx hb (by omega) (by omega) dX4_isSame_171 (by decide) (fun c171 => ?_) (fun c171 => ?_)
              · exact absurd rfl c171
              · refine lv_aload_n hx hb dX4_isSame_174 rfl (lv_at hl 5 rfl) ?_
                refine lv_iload hx hb dX4_isSame_175 (lv_at hl 1 rfl) ?_
                refine p_V (As := [.int (nI (r))]) (rest := []) S (c_X2_digestIn l g AD LL EE LN lc ec hI.1 hI.2.1 hI.hLL hI.hEE r (by omega)) (cwV 1 hts gX4_isSame_X2_digestIn rfl rfl rfl (by decide +kernel) ⟨Nat.le_of_ble_eq_true rfl, Nat.le_of_ble_eq_true rfl⟩) hK (va_recv hK.1 hDk (ci := 2) (q0 := 0) rfl dk_me) hDk rfl hl.1 rfl (Nat.le_of_ble_eq_true rfl) dX4_isSame_177 ⟨by show _ ≤ 0; omega, by show _ ≤ 0; omega⟩ ?_
                refine lv_aload hx hb dX4_isSame_180 (lv_at hl 0 rfl) ?_
                refine va_get (D := gD g) (ci := 3) (v := .int ((EE r).2.1)) (C := RX3) (T := TX3) (N := 4) hx hb hts iX3 hown hK.1 (hW.2.2.2 r (by omega)).1 0 rfl rfl 2 (by decide) f44 (fun _ h9 => h9) rfl dX4_isSame_182 ?_
                refine lv_icmp_ne (tgt := 217) hx hb dX4_isSame_185 (by decide) (fun c185 => ?_) (fun c185 => ?_)
                · exact absurd rfl c185
                · refine lv_aload_n hx hb dX4_isSame_188 rfl (lv_at hl 5 rfl) ?_
                  refine lv_iload hx hb dX4_isSame_189 (lv_at hl 1 rfl) ?_
                  refine p_V (As := [.int (nI (r))]) (rest := []) S (c_X2_sealOf l g AD LL EE LN lc ec hI.1 hI.2.1 hI.hLL hI.hEE r (by omega)) (cwV 1 hts gX4_isSame_X2_sealOf rfl rfl rfl (by decide +kernel) ⟨Nat.le_of_ble_eq_true rfl, Nat.le_of_ble_eq_true rfl⟩) hK (va_recv hK.1 hDk (ci := 2) (q0 := 0) rfl dk_me) hDk rfl hl.1 rfl (Nat.le_of_ble_eq_true rfl) dX4_isSame_191 ⟨by show _ ≤ 0; omega, by show _ ≤ 0; omega⟩ ?_
                  refine lv_aload hx hb dX4_isSame_194 (lv_at hl 0 rfl) ?_
                  refine va_get (D := gD g) (ci := 3) (v := .int ((EE r).2.2.2.2.2.2.1)) (C := RX3) (T := TX3) (N := 4) hx hb hts iX3 hown hK.1 (hW.2.2.2 r (by omega)).1 0 rfl rfl 3 (by decide) f27 (fun _ h9 => h9) rfl dX4_isSame_196 ?_
                  refine lv_icmp_ne (tgt := 217) hx hb dX4_isSame_199 (by decide) (fun c199 => ?_) (fun c199 => ?_)
                  · exact absurd rfl c199
                  · refine lv_aload_n hx hb dX4_isSame_202 rfl (lv_at hl 5 rfl) ?_
                    refine lv_iload hx hb dX4_isSame_203 (lv_at hl 1 rfl) ?_
                    refine p_V (As := [.int (nI (r))]) (rest := []) S (c_X2_isWhole l g AD LL EE LN lc ec hI.1 hI.2.1 hI.hLL hI.hEE r (by omega)) (cwV 1 hts gX4_isSame_X2_isWhole rfl rfl rfl (by decide +kernel) ⟨Nat.le_of_ble_eq_true rfl, Nat.le_of_ble_eq_true rfl⟩) hK (va_recv hK.1 hDk (ci := 2) (q0 := 0) rfl dk_me) hDk rfl hl.1 rfl (Nat.le_of_ble_eq_true rfl) dX4_isSame_205 ⟨by show _ ≤ 0; omega, by show _ ≤ 0; omega⟩ ?_
                    refine lv_aload_n hx hb dX4_isSame_208 rfl (lv_at hl 4 rfl) ?_
                    refine lv_aload hx hb dX4_isSame_209 (lv_at hl 0 rfl) ?_
                    refine p_V (As := [.ref (xa r)]) (rest := [.int (bI (ftD LL EE LN r))]) S (c_X4_isWhole l g B so la ea ra xa ta LL EE TT lc ec r (LN r) (by omega) (by omega) (hI.hEE r (by omega)).2.1 (hI.hEE r (by omega)).1 (hI.le (hI.hEE r (by omega)).2.1)) (cwV 1 hts gX4_isSame_X4_isWhole rfl rfl rfl (by decide +kernel) ⟨Nat.le_of_ble_eq_true rfl, Nat.le_of_ble_eq_true rfl⟩) hK (va_recv hK.1 hW.1.1 (ci := 4) (q0 := 0) rfl rfl) hW rfl hl.1 rfl (Nat.le_of_ble_eq_true rfl) dX4_isSame_211 ⟨by show _ ≤ 0; omega, by show _ ≤ 0; omega⟩ ?_
                    refine lv_toI (z := bI (ftD LL EE LN r)) (rfl) ?_
                    refine lv_icmp_eq (tgt := 219) hx hb dX4_isSame_214 (by decide) (fun c214 => ?_) (fun c214 => ?_)
                    · refine lv_iinc (v := nI (r) - 1) (lv' := [(4, .int (nI (r) - 1)), (5, .ref (xa r)), (3, .int (fsF (fun q => !ftD LL EE LN q) (ec - r) r)), (2, .int (nI (sN (fun u9 => (LL u9).2.2) lc))), (0, .ref (so)), (1, .ref (AD 0))]) hx hb dX4_isSame_219 hl (k := 1) rfl (sub1 _) (by decide) rfl (fun ls hl => ?_)
                      refine lv_goto (tgt := 134) hx hb dX4_isSame_222 (by decide) ?_
                      exact ih _ (by omega) (lv_sub hl [0, 2, 3, 4, 5] rfl)
                    · exact absurd rfl c214
            · refine lv_iload hx hb dX4_isSame_157 (lv_at hl 1 rfl) ?_
              refine lv_istore_n (lv' := [(3, .int (nI (r))), (5, .ref (xa r)), (4, .int (nI (r))), (2, .int (nI (sN (fun u9 => (LL u9).2.2) lc))), (0, .ref (so)), (1, .ref (AD 0))]) hx hb dX4_isSame_159 rfl hl (by decide) rfl (fun ls hl => ?_)
              have hl : lv_has ls 6 [(3, .int (fsF (fun q => !ftD LL EE LN q) (ec - r) r)), (5, .ref (xa r)), (4, .int (nI (r))), (2, .int (nI (sN (fun u9 => (LL u9).2.2) lc))), (0, .ref (so)), (1, .ref (AD 0))] := by rw [← fb_f (LL := LL) (EE := EE) (LN := LN) (r := r) (ec := ec) (by omega) c154]; exact hl
              refine lv_aload_n hx hb dX4_isSame_160 rfl (lv_at hl 5 rfl) ?_
              refine lv_iload hx hb dX4_isSame_161 (lv_at hl 2 rfl) ?_
              refine p_V (As := [.int (nI (r))]) (rest := []) S (c_X2_letterIn l g AD LL EE LN lc ec hI.1 hI.2.1 hI.hLL hI.hEE r (by omega)) (cwV 1 hts gX4_isSame_X2_letterIn rfl rfl rfl (by decide +kernel) ⟨Nat.le_of_ble_eq_true rfl, Nat.le_of_ble_eq_true rfl⟩) hK (va_recv hK.1 hDk (ci := 2) (q0 := 0) rfl dk_me) hDk rfl hl.1 rfl (Nat.le_of_ble_eq_true rfl) dX4_isSame_163 ⟨by show _ ≤ 0; omega, by show _ ≤ 0; omega⟩ ?_
              refine lv_aload hx hb dX4_isSame_166 (lv_at hl 1 rfl) ?_
              refine va_get (D := gD g) (ci := 3) (v := .int ((EE r).1)) (C := RX3) (T := TX3) (N := 4) hx hb hts iX3 hown hK.1 (hW.2.2.2 r (by omega)).1 0 rfl rfl 0 (by decide) f34 (fun _ h9 => h9) rfl dX4_isSame_168 ?_
              refine lv_toI (z := nI (LN r)) ((hI.hEE r (by omega)).1) ?_
              refine br_ne (a := LN r) (b := LN r) (tgt := 217) hx hb (by omega) (by omega) dX4_isSame_171 (by decide) (fun c171 => ?_) (fun c171 => ?_)
              · exact absurd rfl c171
              · refine lv_aload_n hx hb dX4_isSame_174 rfl (lv_at hl 5 rfl) ?_
                refine lv_iload hx hb dX4_isSame_175 (lv_at hl 2 rfl) ?_
                refine p_V (As := [.int (nI (r))]) (rest := []) S (c_X2_digestIn l g AD LL EE LN lc ec hI.1 hI.2.1 hI.hLL hI.hEE r (by omega)) (cwV 1 hts gX4_isSame_X2_digestIn rfl rfl rfl (by decide +kernel) ⟨Nat.le_of_ble_eq_true rfl, Nat.le_of_ble_eq_true rfl⟩) hK (va_recv hK.1 hDk (ci := 2) (q0 := 0) rfl dk_me) hDk rfl hl.1 rfl (Nat.le_of_ble_eq_true rfl) dX4_isSame_177 ⟨by show _ ≤ 0; omega, by show _ ≤ 0; omega⟩ ?_
                refine lv_aload hx hb dX4_isSame_180 (lv_at hl 1 rfl) ?_
                refine va_get (D := gD g) (ci := 3) (v := .int ((EE r).2.1)) (C := RX3) (T := TX3) (N := 4) hx hb hts iX3 hown hK.1 (hW.2.2.2 r (by omega)).1 0 rfl rfl 2 (by decide) f44 (fun _ h9 => h9) rfl dX4_isSame_182 ?_
                refine lv_icmp_ne (tgt := 217) hx hb dX4_isSame_185 (by decide) (fun c185 => ?_) (fun c185 => ?_)
                · exact absurd rfl c185
                · refine lv_aload_n hx hb dX4_isSame_188 rfl (lv_at hl 5 rfl) ?_
                  refine lv_iload hx hb dX4_isSame_189 (lv_at hl 2 rfl) ?_
                  refine p_V (As := [.int (nI (r))]) (rest := []) S (c_X2_sealOf l g AD LL EE LN lc ec hI.1 hI.2.1 hI.hLL hI.hEE r (by omega)) (cwV 1 hts gX4_isSame_X2_sealOf rfl rfl rfl (by decide +kernel) ⟨Nat.le_of_ble_eq_true rfl, Nat.le_of_ble_eq_true rfl⟩) hK (va_recv hK.1 hDk (ci := 2) (q0 := 0) rfl dk_me) hDk rfl hl.1 rfl (Nat.le_of_ble_eq_true rfl) dX4_isSame_191 ⟨by show _ ≤ 0; omega, by show _ ≤ 0; omega⟩ ?_
                  refine lv_aload hx hb dX4_isSame_194 (lv_at hl 1 rfl) ?_
                  refine va_get (D := gD g) (ci := 3) (v := .int ((EE r).2.2.2.2.2.2.1)) (C := RX3) (T := TX3) (N := 4) hx hb hts iX3 hown hK.1 (hW.2.2.2 r (by omega)).1 0 rfl rfl 3 (by decide) f27 (fun _ h9 => h9) rfl dX4_isSame_196 ?_
                  refine lv_icmp_ne (tgt := 217) hx hb dX4_isSame_199 (by decide) (fun c199 => ?_) (fun c199 => ?_)
                  · exact absurd rfl c199
                  · refine lv_aload_n hx hb dX4_isSame_202 rfl (lv_at hl 5 rfl) ?_
                    refine lv_iload hx hb dX4_isSame_203 (lv_at hl 2 rfl) ?_
                    refine p_V (As := [.int (nI (r))]) (rest := []) S (c_X2_isWhole l g AD LL EE LN lc ec hI.1 hI.2.1 hI.hLL hI.hEE r (by omega)) (cwV 1 hts gX4_isSame_X2_isWhole rfl rfl rfl (by decide +kernel) ⟨Nat.le_of_ble_eq_true rfl, Nat.le_of_ble_eq_true rfl⟩) hK (va_recv hK.1 hDk (ci := 2) (q0 := 0) rfl dk_me) hDk rfl hl.1 rfl (Nat.le_of_ble_eq_true rfl) dX4_isSame_205 ⟨by show _ ≤ 0; omega, by show _ ≤ 0; omega⟩ ?_
                    refine lv_aload_n hx hb dX4_isSame_208 rfl (lv_at hl 4 rfl) ?_
                    refine lv_aload hx hb dX4_isSame_209 (lv_at hl 1 rfl) ?_
                    refine p_V (As := [.ref (xa r)]) (rest := [.int (bI (ftD LL EE LN r))]) S (c_X4_isWhole l g B so la ea ra xa ta LL EE TT lc ec r (LN r) (by omega) (by omega) (hI.hEE r (by omega)).2.1 (hI.hEE r (by omega)).1 (hI.le (hI.hEE r (by omega)).2.1)) (cwV 1 hts gX4_isSame_X4_isWhole rfl rfl rfl (by decide +kernel) ⟨Nat.le_of_ble_eq_true rfl, Nat.le_of_ble_eq_true rfl⟩) hK (va_recv hK.1 hW.1.1 (ci := 4) (q0 := 0) rfl rfl) hW rfl hl.1 rfl (Nat.le_of_ble_eq_true rfl) dX4_isSame_211 ⟨by show _ ≤ 0; omega, by show _ ≤ 0; omega⟩ ?_
                    refine lv_toI (z := bI (ftD LL EE LN r)) (rfl) ?_
                    refine lv_icmp_eq (tgt := 219) hx hb dX4_isSame_214 (by decide) (fun c214 => ?_) (fun c214 => ?_)
                    · refine lv_iinc (v := nI (r) - 1) (lv' := [(4, .int (nI (r) - 1)), (3, .int (fsF (fun q => !ftD LL EE LN q) (ec - r) r)), (5, .ref (xa r)), (2, .int (nI (sN (fun u9 => (LL u9).2.2) lc))), (0, .ref (so)), (1, .ref (AD 0))]) hx hb dX4_isSame_219 hl (k := 2) rfl (sub1 _) (by decide) rfl (fun ls hl => ?_)
                      refine lv_goto (tgt := 134) hx hb dX4_isSame_222 (by decide) ?_
                      exact ih _ (by omega) (lv_sub hl [0, 1, 3, 4, 5] rfl)
                    · exact absurd rfl c214
        exact L134 ec _ (Nat.le_refl _) (lv_sub hl [0, 1, 2, 3, 4] rfl)
      · refine lv_aload_n hx hb dX4_isSame_13 rfl (lv_at hl 2 rfl) ?_
        refine va_get (D := gD g) (ci := 4) (v := .ref (la)) (C := RX4) (T := TX4) (N := 2) hx hb hts iX4 hown hK.1 hW.1.1 0 rfl rfl 0 (by decide) f9 (fun _ h9 => h9) rfl dX4_isSame_14 ?_
        refine lv_iload_n hx hb dX4_isSame_17 rfl (lv_at hl 0 rfl) ?_
        refine gt_A (k := i) (r := ra i) hx hb hK hW.1.2.1 rfl (by omega) (by omega) dX4_isSame_18 ?_
        refine lv_astore (lv' := [(4, .ref (ra i)), (3, .int (nI i)), (2, .int (nI (sN (fun u9 => (LL u9).2.2) i))), (0, .ref (so)), (1, .ref (AD 0))]) hx hb dX4_isSame_19 hl (by decide) rfl (fun ls hl => ?_)
        refine lv_iload_n hx hb dX4_isSame_21 rfl (lv_at hl 2 rfl) ?_
        refine lv_aload hx hb dX4_isSame_22 (lv_at hl 0 rfl) ?_
        refine va_alen (v := nI ((LL i).2.2)) hx hb hK.1 (hW.2.2.1 i (by omega)).1 0 0 rfl (ht := (rfl : (gTy g)[0]? = _)) rfl dX4_isSame_24 ?_
        refine lv_iadd hx hb dX4_isSame_25 ?_
        refine lv_toI (z := nI (sN (fun u9 => (LL u9).2.2) i + (LL i).2.2)) (nI_add _ _) ?_
        refine lv_toI (z := nI (sN (fun u9 => (LL u9).2.2) (i + 1))) (rfl) ?_
        refine lv_istore_n (lv' := [(2, .int (nI (sN (fun u9 => (LL u9).2.2) (i + 1)))), (4, .ref (ra i)), (3, .int (nI i)), (0, .ref (so)), (1, .ref (AD 0))]) hx hb dX4_isSame_26 rfl hl (by decide) rfl (fun ls hl => ?_)
        have hlei := hle i (by omega)
        refine lv_aload_n hx hb dX4_isSame_27 rfl (lv_at hl 4 rfl) ?_
        refine lv_iload_n hx hb dX4_isSame_28 rfl (lv_at hl 2 rfl) ?_
        refine p_V (As := [.int (nI i)]) (rest := []) S (c_X2_signsOf l g AD LL EE LN lc ec hI.1 hI.2.1 hI.hLL hI.hEE i (by omega)) (cwV 1 hts gX4_isSame_X2_signsOf rfl rfl rfl (by decide +kernel) ⟨Nat.le_of_ble_eq_true rfl, Nat.le_of_ble_eq_true rfl⟩) hK (va_recv hK.1 hDk (ci := 2) (q0 := 0) rfl dk_me) hDk rfl hl.1 rfl (Nat.le_of_ble_eq_true rfl) dX4_isSame_29 ⟨by show _ ≤ 0; omega, by show _ ≤ 0; omega⟩ ?_
        refine lv_aload hx hb dX4_isSame_32 (lv_at hl 1 rfl) ?_
        refine va_alen (v := nI ((LL i).2.2)) hx hb hK.1 (hW.2.2.1 i (by omega)).1 0 0 rfl (ht := (rfl : (gTy g)[0]? = _)) rfl dX4_isSame_34 ?_
        refine br_ne (a := (LL i).2.2) (b := (LL i).2.2) (tgt := 81) hx hb (by omega) (by omega) dX4_isSame_35 (by decide) (fun c35 => ?_) (fun c35 => ?_)
        · exact absurd rfl c35
        · refine lv_aload_n hx hb dX4_isSame_38 rfl (lv_at hl 4 rfl) ?_
          refine lv_iload_n hx hb dX4_isSame_39 rfl (lv_at hl 2 rfl) ?_
          refine p_V (As := [.int (nI i)]) (rest := []) S (c_X2_commasOf l g AD LL EE LN lc ec hI.1 hI.2.1 hI.hLL hI.hEE i (by omega)) (cwV 1 hts gX4_isSame_X2_commasOf rfl rfl rfl (by decide +kernel) ⟨Nat.le_of_ble_eq_true rfl, Nat.le_of_ble_eq_true rfl⟩) hK (va_recv hK.1 hDk (ci := 2) (q0 := 0) rfl dk_me) hDk rfl hl.1 rfl (Nat.le_of_ble_eq_true rfl) dX4_isSame_40 ⟨by show _ ≤ 0; omega, by show _ ≤ 0; omega⟩ ?_
          refine lv_aload hx hb dX4_isSame_43 (lv_at hl 1 rfl) ?_
          refine lv_bipush (v := 27) hx hb dX4_isSame_45 (by decide +kernel) ?_
          refine p_S (As := [.ref (ra i), .int (27)]) (rest := [.int (cntF (LL i).1 27 (LL i).2.2)]) S (c_X4_count l g (ra i) (LL i).1 (LL i).2.2 (by omega) 27) (va_cwS 2 hts gX4_isSame_X4_count rfl rfl rfl (by decide +kernel) ⟨Nat.le_of_ble_eq_true rfl, Nat.le_of_ble_eq_true rfl⟩) hK ((hW.2.2.1 i (by omega)).1) rfl hl.1 rfl (Nat.le_of_ble_eq_true rfl) dX4_isSame_47 ⟨by show _ ≤ 0; omega, by show _ ≤ 0; omega⟩ ?_
          refine lv_icmp_ne (tgt := 81) hx hb dX4_isSame_50 (by decide) (fun c50 => ?_) (fun c50 => ?_)
          · exact absurd rfl c50
          · refine lv_aload_n hx hb dX4_isSame_53 rfl (lv_at hl 4 rfl) ?_
            refine lv_iload_n hx hb dX4_isSame_54 rfl (lv_at hl 2 rfl) ?_
            refine p_V (As := [.int (nI i)]) (rest := []) S (c_X2_tearsOf l g AD LL EE LN lc ec hI.1 hI.2.1 hI.hLL hI.hEE i (by omega)) (cwV 1 hts gX4_isSame_X2_tearsOf rfl rfl rfl (by decide +kernel) ⟨Nat.le_of_ble_eq_true rfl, Nat.le_of_ble_eq_true rfl⟩) hK (va_recv hK.1 hDk (ci := 2) (q0 := 0) rfl dk_me) hDk rfl hl.1 rfl (Nat.le_of_ble_eq_true rfl) dX4_isSame_55 ⟨by show _ ≤ 0; omega, by show _ ≤ 0; omega⟩ ?_
            refine lv_aload hx hb dX4_isSame_58 (lv_at hl 1 rfl) ?_
            refine lv_bipush (v := 30) hx hb dX4_isSame_60 (by decide +kernel) ?_
            refine p_S (As := [.ref (ra i), .int (30)]) (rest := [.int (cntF (LL i).1 30 (LL i).2.2)]) S (c_X4_count l g (ra i) (LL i).1 (LL i).2.2 (by omega) 30) (va_cwS 2 hts gX4_isSame_X4_count rfl rfl rfl (by decide +kernel) ⟨Nat.le_of_ble_eq_true rfl, Nat.le_of_ble_eq_true rfl⟩) hK ((hW.2.2.1 i (by omega)).1) rfl hl.1 rfl (Nat.le_of_ble_eq_true rfl) dX4_isSame_62 ⟨by show _ ≤ 0; omega, by show _ ≤ 0; omega⟩ ?_
            refine lv_icmp_ne (tgt := 81) hx hb dX4_isSame_65 (by decide) (fun c65 => ?_) (fun c65 => ?_)
            · exact absurd rfl c65
            · refine lv_aload_n hx hb dX4_isSame_68 rfl (lv_at hl 4 rfl) ?_
              refine lv_iload_n hx hb dX4_isSame_69 rfl (lv_at hl 2 rfl) ?_
              refine p_V (As := [.int (nI i)]) (rest := []) S (c_X2_digestOf l g AD LL EE LN lc ec hI.1 hI.2.1 hI.hLL hI.hEE i (by omega)) (cwV 1 hts gX4_isSame_X2_digestOf rfl rfl rfl (by decide +kernel) ⟨Nat.le_of_ble_eq_true rfl, Nat.le_of_ble_eq_true rfl⟩) hK (va_recv hK.1 hDk (ci := 2) (q0 := 0) rfl dk_me) hDk rfl hl.1 rfl (Nat.le_of_ble_eq_true rfl) dX4_isSame_70 ⟨by show _ ≤ 0; omega, by show _ ≤ 0; omega⟩ ?_
              refine lv_aload hx hb dX4_isSame_73 (lv_at hl 1 rfl) ?_
              refine p_S (As := [.ref (ra i)]) (rest := [.int (dgF (LL i).1 (LL i).2.2)]) S (c_X4_digest l g (ra i) (LL i).1 (LL i).2.2 (by omega)) (va_cwS 1 hts gX4_isSame_X4_digest rfl rfl rfl (by decide +kernel) ⟨Nat.le_of_ble_eq_true rfl, Nat.le_of_ble_eq_true rfl⟩) hK ((hW.2.2.1 i (by omega)).1) rfl hl.1 rfl (Nat.le_of_ble_eq_true rfl) dX4_isSame_75 ⟨by show _ ≤ 0; omega, by show _ ≤ 0; omega⟩ ?_
              refine lv_icmp_eq (tgt := 83) hx hb dX4_isSame_78 (by decide) (fun c78 => ?_) (fun c78 => ?_)
              · refine lv_iconst (v := 0) hx hb dX4_isSame_83 (by decide +kernel) ?_
                refine lv_istore (lv' := [(5, .int (0)), (2, .int (nI (sN (fun u9 => (LL u9).2.2) (i + 1)))), (4, .ref (ra i)), (3, .int (nI i)), (0, .ref (so)), (1, .ref (AD 0))]) hx hb dX4_isSame_84 hl (by decide) rfl (fun ls hl => ?_)
                have L86 : ∀ (k2 j : Nat) (ls : Array Slot), ((LL i).2.2) - j < k2 → j ≤ ((LL i).2.2) → lv_has ls 6 [(5, .int (nI j)), (4, .ref (ra i)), (3, .int (nI i)), (2, .int (nI (sN (fun u9 => (LL u9).2.2) (i + 1)))), (0, .ref (so)), (1, .ref (AD 0))] → W p l e { frames := 9, cells := 0, slots := 0, locals := 148 } s m args below meth c H [] 0 0 Q (F0 m 86 ls []) := by
                  intro k2
                  induction k2 with
                  | zero => intro j ls hFu; exact absurd hFu (Nat.not_lt_zero _)
                  | succ k2 ih2 =>
                    intro j ls hFu hLe hl
                    refine lv_iload hx hb dX4_isSame_86 (lv_at hl 0 rfl) ?_
                    refine lv_aload hx hb dX4_isSame_88 (lv_at hl 1 rfl) ?_
                    refine va_alen (v := nI ((LL i).2.2)) hx hb hK.1 (hW.2.2.1 i (by omega)).1 0 0 rfl (ht := (rfl : (gTy g)[0]? = _)) rfl dX4_isSame_90 ?_
                    refine br_ge (a := j) (b := (LL i).2.2) (tgt := 117) hx hb (by omega) (by omega) dX4_isSame_91 (by decide) (fun c91 => ?_) (fun c91 => ?_)
                    · obtain rfl : ((LL i).2.2) = j := by omega
                      refine lv_iinc (v := nI (i + 1)) (lv' := [(3, .int (nI (i + 1))), (5, .int (nI ((LL i).2.2))), (4, .ref (ra i)), (2, .int (nI (sN (fun u9 => (LL u9).2.2) (i + 1)))), (0, .ref (so)), (1, .ref (AD 0))]) hx hb dX4_isSame_117 hl (k := 2) rfl (nI_1 _) (by decide) rfl (fun ls hl => ?_)
                      refine lv_goto (tgt := 4) hx hb dX4_isSame_120 (by decide) ?_
                      exact ih1 (i + 1) _ (by omega) (by omega) (lv_sub hl [0, 3, 4, 5] rfl)
                    · refine lv_aload_n hx hb dX4_isSame_94 rfl (lv_at hl 5 rfl) ?_
                      refine lv_iload_n hx hb dX4_isSame_95 rfl (lv_at hl 2 rfl) ?_
                      refine lv_iload hx hb dX4_isSame_96 (lv_at hl 0 rfl) ?_
                      refine p_V (As := [.int (nI i), .int (nI j)]) (rest := []) S (c_X2_signAt l g AD LL EE LN lc ec hI.1 hI.2.1 hI.hLL hI.hEE i (by omega) j (by omega)) (cwV 2 hts gX4_isSame_X2_signAt rfl rfl rfl (by decide +kernel) ⟨Nat.le_of_ble_eq_true rfl, Nat.le_of_ble_eq_true rfl⟩) hK (va_recv hK.1 hDk (ci := 2) (q0 := 0) rfl dk_me) hDk rfl hl.1 rfl (Nat.le_of_ble_eq_true rfl) dX4_isSame_98 ⟨by show _ ≤ 0; omega, by show _ ≤ 0; omega⟩ ?_
                      refine lv_aload hx hb dX4_isSame_101 (lv_at hl 1 rfl) ?_
                      refine lv_iload hx hb dX4_isSame_103 (lv_at hl 0 rfl) ?_
                      refine ld_I (k := j) (n := (LL i).2.2) (f := (LL i).1) hx hb hK.1 (hW.2.2.1 i (by omega)).1 0 rfl (by omega) (by omega) dX4_isSame_105 ?_
                      refine lv_icmp_eq (tgt := 111) hx hb dX4_isSame_106 (by decide) (fun c106 => ?_) (fun c106 => ?_)
                      · refine lv_iinc (v := nI (j + 1)) (lv' := [(5, .int (nI (j + 1))), (4, .ref (ra i)), (3, .int (nI i)), (2, .int (nI (sN (fun u9 => (LL u9).2.2) (i + 1)))), (0, .ref (so)), (1, .ref (AD 0))]) hx hb dX4_isSame_111 hl (k := 0) rfl (nI_1 _) (by decide) rfl (fun ls hl => ?_)
                        refine lv_goto (tgt := 86) hx hb dX4_isSame_114 (by decide) ?_
                        exact ih2 (j + 1) _ (by omega) (by omega) (lv_sub hl [0, 1, 2, 3, 4, 5] rfl)
                      · exact absurd rfl c106
                exact L86 (((LL i).2.2) + 1) (0) _ (by omega) (by omega) (lv_sub hl [0, 2, 3, 1, 4, 5] rfl)
              · exact absurd rfl c78
  exact L4 (lc + 1) (0) _ (by omega) (by omega) (lv_sub hl [0, 1, 2, 3] rfl)
