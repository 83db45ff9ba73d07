/-- a letter's three cells -/
abbrev ltW (g : gT) (h a b : Nat) (f w : Nat → Int32) (n : Nat) : va_W := [(h, .inr (1, [.ref a, .ref b, .int (nI n)])), (a, .inl (gI g, 40, .inl f)), (b, .inl (gI g, 40, .inl w))]

set_option maxHeartbeats 4000000 in
set_option maxRecDepth 100000 in
/-- signDigest() -/
theorem c_X1_signDigest (l : Launch) (g : gT) (h a b : Nat) (f w : Nat → Int32) (n : Nat) (hn : n ≤ 40) : pM g l yX1_signDigest wsX1_signDigest { frames := 0, cells := 0, slots := 0, locals := 0 } [.ref (h)] (fun H => va_P (gD g) vwCl (ltW g h a b f w n) H) (.int (dgF f n)) := by
  refine pu_ofI (cc := cX1_signDigest) (maxL := 3) (by decide) rfl (Nat.le_of_ble_eq_true rfl) ?_
  intro p e s m args below meth c H ls Q hx hb hml hts hown hK hP hl hret
  have hl : lv_has ls 3 [(0, .ref (h))] := hl
  have S : CallFix p m c cX1_signDigest 3 s args wsX1_signDigest RX1 := ⟨hx, hb, hml, hown, hts⟩
  have iX1 : ∀ w ∈ u_ws RX1 TX1 3, w ∈ wsX1_signDigest := by decide +kernel
  have f9 := hts (.fieldLink RX1 9 "LetterSeals$Letter" "signs" "[I") (by decide +kernel)
  have f18 := hts (.fieldLink RX1 18 "LetterSeals$Letter" "count" "I") (by decide +kernel)
  refine lv_iconst (v := 5) hx hb dX1_signDigest_0 (by decide +kernel) ?_
  refine lv_istore_n (lv' := [(1, .int (5)), (0, .ref (h))]) hx hb dX1_signDigest_1 rfl hl (by decide) rfl (fun ls hl => ?_)
  refine lv_iconst (v := nI (0)) hx hb dX1_signDigest_2 (by decide +kernel) ?_
  refine lv_istore_n (lv' := [(2, .int (nI (0))), (1, .int (5)), (0, .ref (h))]) hx hb dX1_signDigest_3 rfl hl (by decide) rfl (fun ls hl => ?_)
  have L4 : ∀ (k1 i : Nat) (ls : Array Slot), n - i < k1 → i ≤ n → lv_has ls 3 [(2, .int (nI i)), (1, .int (dgF f i)), (0, .ref (h))] → W p l e { frames := 0, cells := 0, slots := 0, locals := 0 } s m args below meth c H [] 0 0 Q (F0 m 4 ls []) := by
    intro k1
    induction k1 with
    | zero => intro i ls hFu; exact absurd hFu (Nat.not_lt_zero _)
    | succ k1 ih1 =>
      intro i ls hFu hLe hl
      refine lv_iload_n hx hb dX1_signDigest_4 rfl (lv_at hl 0 rfl) ?_
      refine lv_aload_n hx hb dX1_signDigest_5 rfl (lv_at hl 2 rfl) ?_
      refine va_get (D := gD g) (ci := 1) (v := .int (nI n)) (C := RX1) (T := TX1) (N := 3) hx hb hts iX1 hown hK.1 hP 0 rfl rfl 2 (by decide) f18 (fun _ h9 => h9) rfl dX1_signDigest_6 ?_
      refine br_ge (a := i) (b := n) (tgt := 36) hx hb (by omega) (by omega) dX1_signDigest_9 (by decide) (fun c9 => ?_) (fun c9 => ?_)
      · obtain rfl : n = i := by omega
        refine lv_iload_n hx hb dX1_signDigest_36 rfl (lv_at hl 1 rfl) ?_
        exact hret _ _ dX1_signDigest_37
      · refine lv_iload_n hx hb dX1_signDigest_12 rfl (lv_at hl 1 rfl) ?_
        refine lv_bipush (v := 37) hx hb dX1_signDigest_13 (by decide +kernel) ?_
        refine lv_imul hx hb dX1_signDigest_15 ?_
        refine lv_aload_n hx hb dX1_signDigest_16 rfl (lv_at hl 2 rfl) ?_
        refine va_get (D := gD g) (ci := 1) (v := .ref (a)) (C := RX1) (T := TX1) (N := 3) hx hb hts iX1 hown hK.1 hP 0 rfl rfl 0 (by decide) f9 (fun _ h9 => h9) rfl dX1_signDigest_17 ?_
        refine lv_iload_n hx hb dX1_signDigest_20 rfl (lv_at hl 0 rfl) ?_
        refine ld_I (k := i) (n := 40) (f := f) hx hb hK.1 hP 1 rfl (by omega) (by omega) dX1_signDigest_21 ?_
        refine lv_iadd hx hb dX1_signDigest_22 ?_
        refine lv_iconst (v := 1) hx hb dX1_signDigest_23 (by decide +kernel) ?_
        refine lv_iadd hx hb dX1_signDigest_24 ?_
        refine lv_sipush (v := 8191) hx hb dX1_signDigest_25 (by decide +kernel) ?_
        refine lv_irem hx hb dX1_signDigest_28 (by decide +kernel) ?_
        refine lv_toI (z := dgF f (i + 1)) (rfl) ?_
        refine lv_istore_n (lv' := [(1, .int (dgF f (i + 1))), (2, .int (nI i)), (0, .ref (h))]) hx hb dX1_signDigest_29 rfl hl (by decide) rfl (fun ls hl => ?_)
        refine lv_iinc (v := nI (i + 1)) (lv' := [(2, .int (nI (i + 1))), (1, .int (dgF f (i + 1))), (0, .ref (h))]) hx hb dX1_signDigest_30 hl (k := 1) rfl (nI_1 _) (by decide) rfl (fun ls hl => ?_)
        refine lv_goto (tgt := 4) hx hb dX1_signDigest_33 (by decide) ?_
        exact ih1 (i + 1) _ (by omega) (by omega) (lv_sub hl [0, 1, 2] rfl)
  exact L4 (n + 1) (0) _ (by omega) (by omega) (lv_sub hl [0, 1, 2] rfl)

set_option maxHeartbeats 4000000 in
set_option maxRecDepth 100000 in
/-- countOf(x) -/
theorem c_X1_countOf (l : Launch) (g : gT) (h a b : Nat) (f w : Nat → Int32) (n : Nat) (hn : n ≤ 40) (x : Int32) : pM g l yX1_countOf wsX1_countOf { frames := 0, cells := 0, slots := 0, locals := 0 } [.ref (h), .int (x)] (fun H => va_P (gD g) vwCl (ltW g h a b f w n) H) (.int (cntF f x n)) := by
  refine pu_ofI (cc := cX1_countOf) (maxL := 4) (by decide) rfl (Nat.le_of_ble_eq_true rfl) ?_
  intro p e s m args below meth c H ls Q hx hb hml hts hown hK hP hl hret
  have hl : lv_has ls 4 [(0, .ref (h)), (1, .int (x))] := hl
  have S : CallFix p m c cX1_countOf 4 s args wsX1_countOf RX1 := ⟨hx, hb, hml, hown, hts⟩
  have iX1 : ∀ w ∈ u_ws RX1 TX1 3, w ∈ wsX1_countOf := by decide +kernel
  have f9 := hts (.fieldLink RX1 9 "LetterSeals$Letter" "signs" "[I") (by decide +kernel)
  have f18 := hts (.fieldLink RX1 18 "LetterSeals$Letter" "count" "I") (by decide +kernel)
  refine lv_iconst (v := 0) hx hb dX1_countOf_0 (by decide +kernel) ?_
  refine lv_istore_n (lv' := [(2, .int (0)), (0, .ref (h)), (1, .int (x))]) hx hb dX1_countOf_1 rfl hl (by decide) rfl (fun ls hl => ?_)
  refine lv_iconst (v := nI (0)) hx hb dX1_countOf_2 (by decide +kernel) ?_
  refine lv_istore_n (lv' := [(3, .int (nI (0))), (2, .int (0)), (0, .ref (h)), (1, .int (x))]) hx hb dX1_countOf_3 rfl hl (by decide) rfl (fun ls hl => ?_)
  have L4 : ∀ (k1 i : Nat) (ls : Array Slot), n - i < k1 → i ≤ n → lv_has ls 4 [(3, .int (nI i)), (2, .int (cntF f x i)), (0, .ref (h)), (1, .int (x))] → W p l e { frames := 0, cells := 0, slots := 0, locals := 0 } s m args below meth c H [] 0 0 Q (F0 m 4 ls []) := by
    intro k1
    induction k1 with
    | zero => intro i ls hFu; exact absurd hFu (Nat.not_lt_zero _)
    | succ k1 ih1 =>
      intro i ls hFu hLe hl
      refine lv_iload_n hx hb dX1_countOf_4 rfl (lv_at hl 0 rfl) ?_
      refine lv_aload_n hx hb dX1_countOf_5 rfl (lv_at hl 2 rfl) ?_
      refine va_get (D := gD g) (ci := 1) (v := .int (nI n)) (C := RX1) (T := TX1) (N := 3) hx hb hts iX1 hown hK.1 hP 0 rfl rfl 2 (by decide) f18 (fun _ h9 => h9) rfl dX1_countOf_6 ?_
      refine br_ge (a := i) (b := n) (tgt := 31) hx hb (by omega) (by omega) dX1_countOf_9 (by decide) (fun c9 => ?_) (fun c9 => ?_)
      · obtain rfl : n = i := by omega
        refine lv_iload_n hx hb dX1_countOf_31 rfl (lv_at hl 1 rfl) ?_
        exact hret _ _ dX1_countOf_32
      · refine lv_aload_n hx hb dX1_countOf_12 rfl (lv_at hl 2 rfl) ?_
        refine va_get (D := gD g) (ci := 1) (v := .ref (a)) (C := RX1) (T := TX1) (N := 3) hx hb hts iX1 hown hK.1 hP 0 rfl rfl 0 (by decide) f9 (fun _ h9 => h9) rfl dX1_countOf_13 ?_
        refine lv_iload_n hx hb dX1_countOf_16 rfl (lv_at hl 0 rfl) ?_
        refine ld_I (k := i) (n := 40) (f := f) hx hb hK.1 hP 1 rfl (by omega) (by omega) dX1_countOf_17 ?_
        refine lv_iload_n hx hb dX1_countOf_18 rfl (lv_at hl 3 rfl) ?_
        refine lv_icmp_ne (tgt := 25) hx hb dX1_countOf_19 (by decide) (fun c19 => ?_) (fun c19 => ?_)
        · have e25 : cntF f x i = cntF f x (i + 1) := by rw [cntF, if_neg c19]
          rw [e25] at hl
          refine lv_iinc (v := nI (i + 1)) (lv' := [(3, .int (nI (i + 1))), (2, .int (cntF f x (i + 1))), (0, .ref (h)), (1, .int (x))]) hx hb dX1_countOf_25 hl (k := 0) rfl (nI_1 _) (by decide) rfl (fun ls hl => ?_)
          refine lv_goto (tgt := 4) hx hb dX1_countOf_28 (by decide) ?_
          exact ih1 (i + 1) _ (by omega) (by omega) (lv_sub hl [0, 1, 2, 3] rfl)
        · refine lv_iinc (v := cntF f x (i + 1)) (lv' := [(2, .int (cntF f x (i + 1))), (3, .int (nI i)), (0, .ref (h)), (1, .int (x))]) hx hb dX1_countOf_22 hl (k := 1) rfl (by rw [cntF, if_pos c19]; rfl) (by decide) rfl (fun ls hl => ?_)
          refine lv_iinc (v := nI (i + 1)) (lv' := [(3, .int (nI (i + 1))), (2, .int (cntF f x (i + 1))), (0, .ref (h)), (1, .int (x))]) hx hb dX1_countOf_25 hl (k := 1) rfl (nI_1 _) (by decide) rfl (fun ls hl => ?_)
          refine lv_goto (tgt := 4) hx hb dX1_countOf_28 (by decide) ?_
          exact ih1 (i + 1) _ (by omega) (by omega) (lv_sub hl [0, 1, 2, 3] rfl)
  exact L4 (n + 1) (0) _ (by omega) (by omega) (lv_sub hl [0, 1, 2, 3] rfl)

set_option maxHeartbeats 4000000 in
set_option maxRecDepth 100000 in
/-- windowSum(o, t) -/
theorem c_X1_windowSum (l : Launch) (g : gT) (h a b : Nat) (f w : Nat → Int32) (n : Nat) (hn : n ≤ 40) (o t : Nat) (ho : o + t ≤ 40) : pM g l yX1_windowSum wsX1_windowSum { frames := 0, cells := 0, slots := 0, locals := 0 } [.ref (h), .int (nI o), .int (nI t)] (fun H => va_P (gD g) vwCl (ltW g h a b f w n) H) (.int (wnF f o t)) := by
  refine pu_ofI (cc := cX1_windowSum) (maxL := 5) (by decide) rfl (Nat.le_of_ble_eq_true rfl) ?_
  intro p e s m args below meth c H ls Q hx hb hml hts hown hK hP hl hret
  have hl : lv_has ls 5 [(0, .ref (h)), (1, .int (nI o)), (2, .int (nI t))] := hl
  have S : CallFix p m c cX1_windowSum 5 s args wsX1_windowSum RX1 := ⟨hx, hb, hml, hown, hts⟩
  have iX1 : ∀ w ∈ u_ws RX1 TX1 3, w ∈ wsX1_windowSum := by decide +kernel
  have f9 := hts (.fieldLink RX1 9 "LetterSeals$Letter" "signs" "[I") (by decide +kernel)
  refine lv_iconst (v := 0) hx hb dX1_windowSum_0 (by decide +kernel) ?_
  refine lv_istore_n (lv' := [(3, .int (0)), (0, .ref (h)), (1, .int (nI o)), (2, .int (nI t))]) hx hb dX1_windowSum_1 rfl hl (by decide) rfl (fun ls hl => ?_)
  refine lv_iconst (v := nI (0)) hx hb dX1_windowSum_2 (by decide +kernel) ?_
  refine lv_istore (lv' := [(4, .int (nI (0))), (3, .int (0)), (0, .ref (h)), (1, .int (nI o)), (2, .int (nI t))]) hx hb dX1_windowSum_3 hl (by decide) rfl (fun ls hl => ?_)
  have L5 : ∀ (k1 i : Nat) (ls : Array Slot), t - i < k1 → i ≤ t → lv_has ls 5 [(4, .int (nI i)), (3, .int (wnF f o i)), (0, .ref (h)), (1, .int (nI o)), (2, .int (nI t))] → W p l e { frames := 0, cells := 0, slots := 0, locals := 0 } s m args below meth c H [] 0 0 Q (F0 m 5 ls []) := by
    intro k1
    induction k1 with
    | zero => intro i ls hFu; exact absurd hFu (Nat.not_lt_zero _)
    | succ k1 ih1 =>
      intro i ls hFu hLe hl
      refine lv_iload hx hb dX1_windowSum_5 (lv_at hl 0 rfl) ?_
      refine lv_iload_n hx hb dX1_windowSum_7 rfl (lv_at hl 4 rfl) ?_
      refine br_ge (a := i) (b := t) (tgt := 37) hx hb (by omega) (by omega) dX1_windowSum_8 (by decide) (fun c8 => ?_) (fun c8 => ?_)
      · obtain rfl : t = i := by omega
        refine lv_iload_n hx hb dX1_windowSum_37 rfl (lv_at hl 1 rfl) ?_
        exact hret _ _ dX1_windowSum_38
      · refine lv_iload_n hx hb dX1_windowSum_11 rfl (lv_at hl 1 rfl) ?_
        refine lv_bipush (v := 7) hx hb dX1_windowSum_12 (by decide +kernel) ?_
        refine lv_imul hx hb dX1_windowSum_14 ?_
        refine lv_aload_n hx hb dX1_windowSum_15 rfl (lv_at hl 2 rfl) ?_
        refine va_get (D := gD g) (ci := 1) (v := .ref (a)) (C := RX1) (T := TX1) (N := 3) hx hb hts iX1 hown hK.1 hP 0 rfl rfl 0 (by decide) f9 (fun _ h9 => h9) rfl dX1_windowSum_16 ?_
        refine lv_iload_n hx hb dX1_windowSum_19 rfl (lv_at hl 3 rfl) ?_
        refine lv_iload hx hb dX1_windowSum_20 (lv_at hl 0 rfl) ?_
        refine lv_iadd hx hb dX1_windowSum_22 ?_
        refine lv_toI (z := nI (o + i)) (nI_add _ _) ?_
        refine ld_I (k := o + i) (n := 40) (f := f) hx hb hK.1 hP 1 rfl (by omega) (by omega) dX1_windowSum_23 ?_
        refine lv_iadd hx hb dX1_windowSum_24 ?_
        refine lv_iconst (v := 1) hx hb dX1_windowSum_25 (by decide +kernel) ?_
        refine lv_iadd hx hb dX1_windowSum_26 ?_
        refine lv_bipush (v := 97) hx hb dX1_windowSum_27 (by decide +kernel) ?_
        refine lv_irem hx hb dX1_windowSum_29 (by decide +kernel) ?_
        refine lv_toI (z := wnF f o (i + 1)) (rfl) ?_
        refine lv_istore_n (lv' := [(3, .int (wnF f o (i + 1))), (4, .int (nI i)), (0, .ref (h)), (1, .int (nI o)), (2, .int (nI t))]) hx hb dX1_windowSum_30 rfl hl (by decide) rfl (fun ls hl => ?_)
        refine lv_iinc (v := nI (i + 1)) (lv' := [(4, .int (nI (i + 1))), (3, .int (wnF f o (i + 1))), (0, .ref (h)), (1, .int (nI o)), (2, .int (nI t))]) hx hb dX1_windowSum_31 hl (k := 1) rfl (nI_1 _) (by decide) rfl (fun ls hl => ?_)
        refine lv_goto (tgt := 5) hx hb dX1_windowSum_34 (by decide) ?_
        exact ih1 (i + 1) _ (by omega) (by omega) (lv_sub hl [0, 1, 2, 3, 4] rfl)
  exact L5 (t + 1) (0) _ (by omega) (by omega) (lv_sub hl [0, 1, 2, 3, 4] rfl)

set_option maxHeartbeats 4000000 in
set_option maxRecDepth 100000 in
/-- sameRun(o, other, o2, t) -/
theorem c_X1_sameRun (l : Launch) (g : gT) (h a b h2 a2 b2 : Nat) (f w f2 w2 : Nat → Int32) (n n2 : Nat) (hn : n ≤ 40) (hn2 : n2 ≤ 40) (o o2 t : Nat) (ho : o + t ≤ 40) (ho2 : o2 + t ≤ 40) : pM g l yX1_sameRun wsX1_sameRun { frames := 0, cells := 0, slots := 0, locals := 0 } [.ref (h), .int (nI o), .ref (h2), .int (nI o2), .int (nI t)] (fun H => va_P (gD g) vwCl (ltW g h a b f w n) H ∧ va_P (gD g) vwCl (ltW g h2 a2 b2 f2 w2 n2) H) (.int (bI (eqR f o f2 o2 t))) := by
  refine pu_ofZ (cc := cX1_sameRun) (maxL := 6) (bI_n _) (by decide) rfl (Nat.le_of_ble_eq_true rfl) ?_
  intro p e s m args below meth c H ls Q hx hb hml hts hown hK hP hl hret
  have hl : lv_has ls 6 [(0, .ref (h)), (1, .int (nI o)), (2, .ref (h2)), (3, .int (nI o2)), (4, .int (nI t))] := hl
  have S : CallFix p m c cX1_sameRun 6 s args wsX1_sameRun RX1 := ⟨hx, hb, hml, hown, hts⟩
  have iX1 : ∀ w ∈ u_ws RX1 TX1 3, w ∈ wsX1_sameRun := by decide +kernel
  have f9 := hts (.fieldLink RX1 9 "LetterSeals$Letter" "signs" "[I") (by decide +kernel)
  refine lv_iconst (v := nI (0)) hx hb dX1_sameRun_0 (by decide +kernel) ?_
  refine lv_istore (lv' := [(5, .int (nI (0))), (0, .ref (h)), (1, .int (nI o)), (2, .ref (h2)), (3, .int (nI o2)), (4, .int (nI t))]) hx hb dX1_sameRun_1 hl (by decide) rfl (fun ls hl => ?_)
  have L3 : ∀ (k1 i : Nat) (ls : Array Slot), t - i < k1 → i ≤ t → (eqR f o f2 o2 i = true) → lv_has ls 6 [(5, .int (nI i)), (0, .ref (h)), (1, .int (nI o)), (2, .ref (h2)), (3, .int (nI o2)), (4, .int (nI t))] → W p l e { frames := 0, cells := 0, slots := 0, locals := 0 } s m args below meth c H [] 0 0 Q (F0 m 3 ls []) := by
    intro k1
    induction k1 with
    | zero => intro i ls hFu; exact absurd hFu (Nat.not_lt_zero _)
    | succ k1 ih1 =>
      intro i ls hFu hLe he hl
      refine lv_iload hx hb dX1_sameRun_3 (lv_at hl 0 rfl) ?_
      refine lv_iload hx hb dX1_sameRun_5 (lv_at hl 5 rfl) ?_
      refine br_ge (a := i) (b := t) (tgt := 39) hx hb (by omega) (by omega) dX1_sameRun_7 (by decide) (fun c7 => ?_) (fun c7 => ?_)
      · obtain rfl : t = i := by omega
        refine lv_iconst (v := bI true) hx hb dX1_sameRun_39 (by decide +kernel) ?_
        refine lv_toI (z := bI (eqR f o f2 o2 t)) (by rw [he]) ?_
        exact hret _ _ dX1_sameRun_40
      · refine lv_aload_n hx hb dX1_sameRun_10 rfl (lv_at hl 1 rfl) ?_
        refine va_get (D := gD g) (ci := 1) (v := .ref (a)) (C := RX1) (T := TX1) (N := 3) hx hb hts iX1 hown hK.1 hP.1 0 rfl rfl 0 (by decide) f9 (fun _ h9 => h9) rfl dX1_sameRun_11 ?_
        refine lv_iload_n hx hb dX1_sameRun_14 rfl (lv_at hl 2 rfl) ?_
        refine lv_iload hx hb dX1_sameRun_15 (lv_at hl 0 rfl) ?_
        refine lv_iadd hx hb dX1_sameRun_17 ?_
        refine lv_toI (z := nI (o + i)) (nI_add _ _) ?_
        refine ld_I (k := o + i) (n := 40) (f := f) hx hb hK.1 hP.1 1 rfl (by omega) (by omega) dX1_sameRun_18 ?_
        refine lv_aload_n hx hb dX1_sameRun_19 rfl (lv_at hl 3 rfl) ?_
        refine va_get (D := gD g) (ci := 1) (v := .ref (a2)) (C := RX1) (T := TX1) (N := 3) hx hb hts iX1 hown hK.1 hP.2 0 rfl rfl 0 (by decide) f9 (fun _ h9 => h9) rfl dX1_sameRun_20 ?_
        refine lv_iload_n hx hb dX1_sameRun_23 rfl (lv_at hl 4 rfl) ?_
        refine lv_iload hx hb dX1_sameRun_24 (lv_at hl 0 rfl) ?_
        refine lv_iadd hx hb dX1_sameRun_26 ?_
        refine lv_toI (z := nI (o2 + i)) (nI_add _ _) ?_
        refine ld_I (k := o2 + i) (n := 40) (f := f2) hx hb hK.1 hP.2 1 rfl (by omega) (by omega) dX1_sameRun_27 ?_
        refine lv_icmp_eq (tgt := 33) hx hb dX1_sameRun_28 (by decide) (fun c28 => ?_) (fun c28 => ?_)
        · refine lv_iinc (v := nI (i + 1)) (lv' := [(5, .int (nI (i + 1))), (0, .ref (h)), (1, .int (nI o)), (2, .ref (h2)), (3, .int (nI o2)), (4, .int (nI t))]) hx hb dX1_sameRun_33 hl (k := 0) rfl (nI_1 _) (by decide) rfl (fun ls hl => ?_)
          refine lv_goto (tgt := 3) hx hb dX1_sameRun_36 (by decide) ?_
          exact ih1 (i + 1) _ (by omega) (by omega) (eqR_go he c28) (lv_sub hl [0, 1, 2, 3, 4, 5] rfl)
        · refine lv_iconst (v := bI false) hx hb dX1_sameRun_31 (by decide +kernel) ?_
          refine lv_toI (z := bI (eqR f o f2 o2 t)) (by rw [eqR_no c7 c28]) ?_
          exact hret _ _ dX1_sameRun_32
  exact L3 (t + 1) (0) _ (by omega) (by omega) (rfl) (lv_sub hl [0, 1, 2, 3, 4, 5] rfl)

set_option maxHeartbeats 4000000 in
set_option maxRecDepth 100000 in
/-- hasSameSigns(other) -/
theorem c_X1_hasSameSigns (l : Launch) (g : gT) (h a b h2 a2 b2 : Nat) (f w f2 w2 : Nat → Int32) (n n2 : Nat) (hn : n ≤ 40) (hn2 : n2 ≤ 40) : pM g l yX1_hasSameSigns wsX1_hasSameSigns { frames := 1, cells := 0, slots := 0, locals := 25 } [.ref (h), .ref (h2)] (fun H => va_P (gD g) vwCl (ltW g h a b f w n) H ∧ va_P (gD g) vwCl (ltW g h2 a2 b2 f2 w2 n2) H) (.int (bI (decide (n = n2) && eqR f 0 f2 0 n))) := by
  refine pu_ofZ (cc := cX1_hasSameSigns) (maxL := 2) (bI_n _) (by decide) rfl (Nat.le_of_ble_eq_true rfl) ?_
  intro p e s m args below meth c H ls Q hx hb hml hts hown hK hP hl hret
  have hl : lv_has ls 2 [(0, .ref (h)), (1, .ref (h2))] := hl
  have S : CallFix p m c cX1_hasSameSigns 2 s args wsX1_hasSameSigns RX1 := ⟨hx, hb, hml, hown, hts⟩
  have iX1 : ∀ w ∈ u_ws RX1 TX1 3, w ∈ wsX1_hasSameSigns := by decide +kernel
  have f18 := hts (.fieldLink RX1 18 "LetterSeals$Letter" "count" "I") (by decide +kernel)
  refine lv_aload_n hx hb dX1_hasSameSigns_0 rfl (lv_at hl 0 rfl) ?_
  refine va_get (D := gD g) (ci := 1) (v := .int (nI n)) (C := RX1) (T := TX1) (N := 3) hx hb hts iX1 hown hK.1 hP.1 0 rfl rfl 2 (by decide) f18 (fun _ h9 => h9) rfl dX1_hasSameSigns_1 ?_
  refine lv_aload_n hx hb dX1_hasSameSigns_4 rfl (lv_at hl 1 rfl) ?_
  refine va_get (D := gD g) (ci := 1) (v := .int (nI n2)) (C := RX1) (T := TX1) (N := 3) hx hb hts iX1 hown hK.1 hP.2 0 rfl rfl 2 (by decide) f18 (fun _ h9 => h9) rfl dX1_hasSameSigns_5 ?_
  refine br_ne (a := n) (b := n2) (tgt := 29) hx hb (by omega) (by omega) dX1_hasSameSigns_8 (by decide) (fun c8 => ?_) (fun c8 => ?_)
  · refine lv_iconst (v := bI false) hx hb dX1_hasSameSigns_29 (by decide +kernel) ?_
    refine lv_toI (z := bI (decide (n = n2) && eqR f 0 f2 0 n)) (by first | (rw [c22]; simp; done) | (simp [c8]; done)) ?_
    exact hret _ _ dX1_hasSameSigns_30
  · refine lv_aload_n hx hb dX1_hasSameSigns_11 rfl (lv_at hl 0 rfl) ?_
    refine lv_iconst (v := nI (0)) hx hb dX1_hasSameSigns_12 (by decide +kernel) ?_
    refine lv_aload_n hx hb dX1_hasSameSigns_13 rfl (lv_at hl 1 rfl) ?_
    refine lv_iconst (v := nI (0)) hx hb dX1_hasSameSigns_14 (by decide +kernel) ?_
    refine lv_aload_n hx hb dX1_hasSameSigns_15 rfl (lv_at hl 0 rfl) ?_
    refine va_get (D := gD g) (ci := 1) (v := .int (nI n)) (C := RX1) (T := TX1) (N := 3) hx hb hts iX1 hown hK.1 hP.1 0 rfl rfl 2 (by decide) f18 (fun _ h9 => h9) rfl dX1_hasSameSigns_16 ?_
    refine p_V (As := [.int (nI (0)), .ref (h2), .int (nI (0)), .int (nI n)]) (rest := []) S (c_X1_sameRun l g h a b h2 a2 b2 f w f2 w2 n n2 hn hn2 0 0 n (by omega) (by omega)) (cwV 4 hts gX1_hasSameSigns_X1_sameRun rfl rfl rfl (by decide +kernel) ⟨Nat.le_of_ble_eq_true rfl, Nat.le_of_ble_eq_true rfl⟩) hK (va_recv hK.1 hP.1 (ci := 1) (q0 := 0) rfl rfl) (hP) rfl hl.1 rfl (Nat.le_of_ble_eq_true rfl) dX1_hasSameSigns_19 ⟨Nat.le_of_ble_eq_true rfl, Nat.le_of_ble_eq_true rfl⟩ ?_
    refine br_eqB (tgt := 29) hx hb dX1_hasSameSigns_22 (by decide) (fun c22 => ?_) (fun c22 => ?_)
    · refine lv_iconst (v := bI false) hx hb dX1_hasSameSigns_29 (by decide +kernel) ?_
      refine lv_toI (z := bI (decide (n = n2) && eqR f 0 f2 0 n)) (by first | (rw [c22]; simp; done) | (simp [c8]; done)) ?_
      exact hret _ _ dX1_hasSameSigns_30
    · refine lv_iconst (v := bI true) hx hb dX1_hasSameSigns_25 (by decide +kernel) ?_
      refine lv_toI (z := bI (decide (n = n2) && eqR f 0 f2 0 n)) (by rw [c22, c8]; simp) ?_
      refine lv_goto (tgt := 30) hx hb dX1_hasSameSigns_26 (by decide) ?_
      exact hret _ _ dX1_hasSameSigns_30

set_option maxHeartbeats 4000000 in
set_option maxRecDepth 100000 in
/-- firstPlaceOf(other) -/
theorem c_X1_firstPlaceOf (l : Launch) (g : gT) (h a b h2 a2 b2 : Nat) (f w f2 w2 : Nat → Int32) (n n2 : Nat) (hn : n ≤ 40) (hn2 : n2 ≤ 40) : pM g l yX1_firstPlaceOf wsX1_firstPlaceOf { frames := 1, cells := 0, slots := 0, locals := 25 } [.ref (h), .ref (h2)] (fun H => va_P (gD g) vwCl (ltW g h a b f w n) H ∧ va_P (gD g) vwCl (ltW g h2 a2 b2 f2 w2 n2) H) (.int (fsF (fun k => eqR f k f2 0 n2) (n + 1 - n2) 0)) := by
  refine pu_ofI (cc := cX1_firstPlaceOf) (maxL := 3) (by decide) rfl (Nat.le_of_ble_eq_true rfl) ?_
  intro p e s m args below meth c H ls Q hx hb hml hts hown hK hP hl hret
  have hl : lv_has ls 3 [(0, .ref (h)), (1, .ref (h2))] := hl
  have S : CallFix p m c cX1_firstPlaceOf 3 s args wsX1_firstPlaceOf RX1 := ⟨hx, hb, hml, hown, hts⟩
  have iX1 : ∀ w ∈ u_ws RX1 TX1 3, w ∈ wsX1_firstPlaceOf := by decide +kernel
  have f18 := hts (.fieldLink RX1 18 "LetterSeals$Letter" "count" "I") (by decide +kernel)
  refine lv_iconst (v := nI (0)) hx hb dX1_firstPlaceOf_0 (by decide +kernel) ?_
  refine lv_istore_n (lv' := [(2, .int (nI (0))), (0, .ref (h)), (1, .ref (h2))]) hx hb dX1_firstPlaceOf_1 rfl hl (by decide) rfl (fun ls hl => ?_)
  have L2 : ∀ (k1 i : Nat) (ls : Array Slot), (n + 1 - n2) - i < k1 → i ≤ (n + 1 - n2) → (fsF (fun k => eqR f k f2 0 n2) (n + 1 - n2) 0 = fsF (fun k => eqR f k f2 0 n2) (n + 1 - n2 - i) i) → lv_has ls 3 [(2, .int (nI i)), (0, .ref (h)), (1, .ref (h2))] → W p l e { frames := 1, cells := 0, slots := 0, locals := 25 } s m args below meth c H [] 0 0 Q (F0 m 2 ls []) := by
    intro k1
    induction k1 with
    | zero => intro i ls hFu; exact absurd hFu (Nat.not_lt_zero _)
    | succ k1 ih1 =>
      intro i ls hFu hLe he hl
      refine lv_iload_n hx hb dX1_firstPlaceOf_2 rfl (lv_at hl 0 rfl) ?_
      refine lv_aload_n hx hb dX1_firstPlaceOf_3 rfl (lv_at hl 2 rfl) ?_
      refine va_get (D := gD g) (ci := 1) (v := .int (nI n2)) (C := RX1) (T := TX1) (N := 3) hx hb hts iX1 hown hK.1 hP.2 0 rfl rfl 2 (by decide) f18 (fun _ h9 => h9) rfl dX1_firstPlaceOf_4 ?_
      refine lv_iadd hx hb dX1_firstPlaceOf_7 ?_
      refine lv_toI (z := nI (i + n2)) (nI_add _ _) ?_
      refine lv_aload_n hx hb dX1_firstPlaceOf_8 rfl (lv_at hl 1 rfl) ?_
      refine va_get (D := gD g) (ci := 1) (v := .int (nI n)) (C := RX1) (T := TX1) (N := 3) hx hb hts iX1 hown hK.1 hP.1 0 rfl rfl 2 (by decide) f18 (fun _ h9 => h9) rfl dX1_firstPlaceOf_9 ?_
      refine br_gt (a := i + n2) (b := n) (tgt := 37) hx hb (by omega) (by omega) dX1_firstPlaceOf_12 (by decide) (fun c12 => ?_) (fun c12 => ?_)
      · refine lv_iconst (v := (-1)) hx hb dX1_firstPlaceOf_37 (by decide +kernel) ?_
        refine lv_toI (z := fsF (fun k => eqR f k f2 0 n2) (n + 1 - n2) 0) (by rw [he, show n + 1 - n2 - i = 0 by omega]; rfl) ?_
        exact hret _ _ dX1_firstPlaceOf_38
      · have c12a : i < n + 1 - n2 := by omega
        refine lv_aload_n hx hb dX1_firstPlaceOf_15 rfl (lv_at hl 1 rfl) ?_
        refine lv_iload_n hx hb dX1_firstPlaceOf_16 rfl (lv_at hl 0 rfl) ?_
        refine lv_aload_n hx hb dX1_firstPlaceOf_17 rfl (lv_at hl 2 rfl) ?_
        refine lv_iconst (v := nI (0)) hx hb dX1_firstPlaceOf_18 (by decide +kernel) ?_
        refine lv_aload_n hx hb dX1_firstPlaceOf_19 rfl (lv_at hl 2 rfl) ?_
        refine va_get (D := gD g) (ci := 1) (v := .int (nI n2)) (C := RX1) (T := TX1) (N := 3) hx hb hts iX1 hown hK.1 hP.2 0 rfl rfl 2 (by decide) f18 (fun _ h9 => h9) rfl dX1_firstPlaceOf_20 ?_
        refine p_V (As := [.int (nI i), .ref (h2), .int (nI (0)), .int (nI n2)]) (rest := []) S (c_X1_sameRun l g h a b h2 a2 b2 f w f2 w2 n n2 hn hn2 i 0 n2 (by omega) (by omega)) (cwV 4 hts gX1_firstPlaceOf_X1_sameRun rfl rfl rfl (by decide +kernel) ⟨Nat.le_of_ble_eq_true rfl, Nat.le_of_ble_eq_true rfl⟩) hK (va_recv hK.1 hP.1 (ci := 1) (q0 := 0) rfl rfl) (hP) rfl hl.1 rfl (Nat.le_of_ble_eq_true rfl) dX1_firstPlaceOf_23 ⟨Nat.le_of_ble_eq_true rfl, Nat.le_of_ble_eq_true rfl⟩ ?_
        refine br_eqB (tgt := 31) hx hb dX1_firstPlaceOf_26 (by decide) (fun c26 => ?_) (fun c26 => ?_)
        · refine lv_iinc (v := nI (i + 1)) (lv' := [(2, .int (nI (i + 1))), (0, .ref (h)), (1, .ref (h2))]) hx hb dX1_firstPlaceOf_31 hl (k := 0) rfl (nI_1 _) (by decide) rfl (fun ls hl => ?_)
          refine lv_goto (tgt := 2) hx hb dX1_firstPlaceOf_34 (by decide) ?_
          exact ih1 (i + 1) _ (by omega) (by omega) (he.trans (fsF_no c12a c26)) (lv_sub hl [0, 1, 2] rfl)
        · refine lv_iload_n hx hb dX1_firstPlaceOf_29 rfl (lv_at hl 0 rfl) ?_
          refine lv_toI (z := fsF (fun k => eqR f k f2 0 n2) (n + 1 - n2) 0) ((he.trans (fsF_yes (by omega) c26)).symm) ?_
          exact hret _ _ dX1_firstPlaceOf_30
  exact L2 ((n + 1 - n2) + 1) (0) _ (by omega) (by omega) (rfl) (lv_sub hl [0, 1, 2] rfl)

set_option maxHeartbeats 4000000 in
set_option maxRecDepth 100000 in
/-- blockCount() -/
theorem c_X1_blockCount (l : Launch) (g : gT) (h a b : Nat) (f w : Nat → Int32) (n : Nat) (hn : n ≤ 40) : pM g l yX1_blockCount wsX1_blockCount { frames := 0, cells := 0, slots := 0, locals := 0 } [.ref (h)] (fun H => va_P (gD g) vwCl (ltW g h a b f w n) H) (.int (nI ((n + 4) / 5))) := by
  refine pu_ofI (cc := cX1_blockCount) (maxL := 1) (by decide) rfl (Nat.le_of_ble_eq_true rfl) ?_
  intro p e s m args below meth c H ls Q hx hb hml hts hown hK hP hl hret
  have hl : lv_has ls 1 [(0, .ref (h))] := hl
  have S : CallFix p m c cX1_blockCount 1 s args wsX1_blockCount RX1 := ⟨hx, hb, hml, hown, hts⟩
  have iX1 : ∀ w ∈ u_ws RX1 TX1 3, w ∈ wsX1_blockCount := by decide +kernel
  have f18 := hts (.fieldLink RX1 18 "LetterSeals$Letter" "count" "I") (by decide +kernel)
  refine lv_aload_n hx hb dX1_blockCount_0 rfl (lv_at hl 0 rfl) ?_
  refine va_get (D := gD g) (ci := 1) (v := .int (nI n)) (C := RX1) (T := TX1) (N := 3) hx hb hts iX1 hown hK.1 hP 0 rfl rfl 2 (by decide) f18 (fun _ h9 => h9) rfl dX1_blockCount_1 ?_
  refine lv_iconst (v := nI (5)) hx hb dX1_blockCount_4 (by decide +kernel) ?_
  refine lv_iadd hx hb dX1_blockCount_5 ?_
  refine lv_toI (z := nI (n + 5)) (nI_add _ _) ?_
  refine lv_iconst (v := nI (1)) hx hb dX1_blockCount_6 (by decide +kernel) ?_
  refine lv_isub hx hb dX1_blockCount_7 ?_
  refine lv_toI (z := nI (n + 5 - 1)) (pk_sub (by omega)) ?_
  refine lv_iconst (v := nI (5)) hx hb dX1_blockCount_8 (by decide +kernel) ?_
  refine lv_idiv hx hb dX1_blockCount_9 (by decide +kernel) ?_
  refine lv_toI (z := nI ((n + 4) / 5)) (by rw [show n + 5 - 1 = n + 4 by omega, pk_div (by omega) (by omega) (by omega)]) ?_
  exact hret _ _ dX1_blockCount_10

set_option maxHeartbeats 4000000 in
set_option maxRecDepth 100000 in
/-- blockSum(k) -/
theorem c_X1_blockSum (l : Launch) (g : gT) (h a b : Nat) (f w : Nat → Int32) (n : Nat) (hn : n ≤ 40) (k : Nat) (hk : k < 8) : pM g l yX1_blockSum wsX1_blockSum { frames := 0, cells := 0, slots := 0, locals := 0 } [.ref (h), .int (nI k)] (fun H => va_P (gD g) vwCl (ltW g h a b f w n) H) (.int (blF f n k)) := by
  refine pu_ofI (cc := cX1_blockSum) (maxL := 5) (by decide) rfl (Nat.le_of_ble_eq_true rfl) ?_
  intro p e s m args below meth c H ls Q hx hb hml hts hown hK hP hl hret
  have hl : lv_has ls 5 [(0, .ref (h)), (1, .int (nI k))] := hl
  have S : CallFix p m c cX1_blockSum 5 s args wsX1_blockSum RX1 := ⟨hx, hb, hml, hown, hts⟩
  have hbl : blN n k ≤ 5 := by unfold blN; omega
  have iX1 : ∀ w ∈ u_ws RX1 TX1 3, w ∈ wsX1_blockSum := by decide +kernel
  have f9 := hts (.fieldLink RX1 9 "LetterSeals$Letter" "signs" "[I") (by decide +kernel)
  have f18 := hts (.fieldLink RX1 18 "LetterSeals$Letter" "count" "I") (by decide +kernel)
  refine lv_iload_n hx hb dX1_blockSum_0 rfl (lv_at hl 1 rfl) ?_
  refine lv_iconst (v := nI (5)) hx hb dX1_blockSum_1 (by decide +kernel) ?_
  refine lv_imul hx hb dX1_blockSum_2 ?_
  refine lv_toI (z := nI (k * 5)) (pk_mul _ _) ?_
  refine lv_istore_n (lv' := [(2, .int (nI (k * 5))), (0, .ref (h)), (1, .int (nI k))]) hx hb dX1_blockSum_3 rfl hl (by decide) rfl (fun ls hl => ?_)
  refine lv_iconst (v := 0) hx hb dX1_blockSum_4 (by decide +kernel) ?_
  refine lv_istore_n (lv' := [(3, .int (0)), (2, .int (nI (k * 5))), (0, .ref (h)), (1, .int (nI k))]) hx hb dX1_blockSum_5 rfl hl (by decide) rfl (fun ls hl => ?_)
  refine lv_iconst (v := nI (0)) hx hb dX1_blockSum_6 (by decide +kernel) ?_
  refine lv_istore (lv' := [(4, .int (nI (0))), (3, .int (0)), (2, .int (nI (k * 5))), (0, .ref (h)), (1, .int (nI k))]) hx hb dX1_blockSum_7 hl (by decide) rfl (fun ls hl => ?_)
  have L9 : ∀ (k1 i : Nat) (ls : Array Slot), (blN n k) - i < k1 → i ≤ (blN n k) → lv_has ls 5 [(4, .int (nI i)), (3, .int (bspF f (k * 5) i)), (2, .int (nI (k * 5))), (0, .ref (h)), (1, .int (nI k))] → W p l e { frames := 0, cells := 0, slots := 0, locals := 0 } s m args below meth c H [] 0 0 Q (F0 m 9 ls []) := by
    intro k1
    induction k1 with
    | zero => intro i ls hFu; exact absurd hFu (Nat.not_lt_zero _)
    | succ k1 ih1 =>
      intro i ls hFu hLe hl
      refine lv_iload hx hb dX1_blockSum_9 (lv_at hl 0 rfl) ?_
      refine lv_iconst (v := nI (5)) hx hb dX1_blockSum_11 (by decide +kernel) ?_
      refine br_ge (a := i) (b := 5) (tgt := 49) hx hb (by omega) (by omega) dX1_blockSum_12 (by decide) (fun c12 => ?_) (fun c12 => ?_)
      · have e_i : i = (blN n k) := by unfold blN at *; omega
        rw [e_i] at hl
        refine lv_iload_n hx hb dX1_blockSum_49 rfl (lv_at hl 1 rfl) ?_
        refine lv_bipush (v := 32) hx hb dX1_blockSum_50 (by decide +kernel) ?_
        refine lv_irem hx hb dX1_blockSum_52 (by decide +kernel) ?_
        refine lv_toI (z := blF f n k) (rfl) ?_
        exact hret _ _ dX1_blockSum_53
      · refine lv_iload_n hx hb dX1_blockSum_15 rfl (lv_at hl 2 rfl) ?_
        refine lv_iload hx hb dX1_blockSum_16 (lv_at hl 0 rfl) ?_
        refine lv_iadd hx hb dX1_blockSum_18 ?_
        refine lv_toI (z := nI (k * 5 + i)) (nI_add _ _) ?_
        refine lv_aload_n hx hb dX1_blockSum_19 rfl (lv_at hl 3 rfl) ?_
        refine va_get (D := gD g) (ci := 1) (v := .int (nI n)) (C := RX1) (T := TX1) (N := 3) hx hb hts iX1 hown hK.1 hP 0 rfl rfl 2 (by decide) f18 (fun _ h9 => h9) rfl dX1_blockSum_20 ?_
        refine br_ge (a := k * 5 + i) (b := n) (tgt := 49) hx hb (by omega) (by omega) dX1_blockSum_23 (by decide) (fun c23 => ?_) (fun c23 => ?_)
        · have e_i : i = (blN n k) := by unfold blN at *; omega
          rw [e_i] at hl
          refine lv_iload_n hx hb dX1_blockSum_49 rfl (lv_at hl 1 rfl) ?_
          refine lv_bipush (v := 32) hx hb dX1_blockSum_50 (by decide +kernel) ?_
          refine lv_irem hx hb dX1_blockSum_52 (by decide +kernel) ?_
          refine lv_toI (z := blF f n k) (rfl) ?_
          exact hret _ _ dX1_blockSum_53
        · have hlt : i < blN n k := by unfold blN; omega
          refine lv_iload_n hx hb dX1_blockSum_26 rfl (lv_at hl 1 rfl) ?_
          refine lv_iload hx hb dX1_blockSum_27 (lv_at hl 0 rfl) ?_
          refine lv_iconst (v := nI (1)) hx hb dX1_blockSum_29 (by decide +kernel) ?_
          refine lv_iadd hx hb dX1_blockSum_30 ?_
          refine lv_toI (z := nI (i + 1)) (nI_add _ _) ?_
          refine lv_aload_n hx hb dX1_blockSum_31 rfl (lv_at hl 3 rfl) ?_
          refine va_get (D := gD g) (ci := 1) (v := .ref (a)) (C := RX1) (T := TX1) (N := 3) hx hb hts iX1 hown hK.1 hP 0 rfl rfl 0 (by decide) f9 (fun _ h9 => h9) rfl dX1_blockSum_32 ?_
          refine lv_iload_n hx hb dX1_blockSum_35 rfl (lv_at hl 2 rfl) ?_
          refine lv_iload hx hb dX1_blockSum_36 (lv_at hl 0 rfl) ?_
          refine lv_iadd hx hb dX1_blockSum_38 ?_
          refine lv_toI (z := nI (k * 5 + i)) (nI_add _ _) ?_
          refine ld_I (k := k * 5 + i) (n := 40) (f := f) hx hb hK.1 hP 1 rfl (by omega) (by omega) dX1_blockSum_39 ?_
          refine lv_imul hx hb dX1_blockSum_40 ?_
          refine lv_iadd hx hb dX1_blockSum_41 ?_
          refine lv_toI (z := bspF f (k * 5) (i + 1)) (rfl) ?_
          refine lv_istore_n (lv' := [(3, .int (bspF f (k * 5) (i + 1))), (4, .int (nI i)), (2, .int (nI (k * 5))), (0, .ref (h)), (1, .int (nI k))]) hx hb dX1_blockSum_42 rfl hl (by decide) rfl (fun ls hl => ?_)
          refine lv_iinc (v := nI (i + 1)) (lv' := [(4, .int (nI (i + 1))), (3, .int (bspF f (k * 5) (i + 1))), (2, .int (nI (k * 5))), (0, .ref (h)), (1, .int (nI k))]) hx hb dX1_blockSum_43 hl (k := 1) rfl (nI_1 _) (by decide) rfl (fun ls hl => ?_)
          refine lv_goto (tgt := 9) hx hb dX1_blockSum_46 (by decide) ?_
          exact ih1 (i + 1) _ (by omega) (by omega) (lv_sub hl [0, 1, 2, 3, 4] rfl)
  exact L9 ((blN n k) + 1) (0) _ (by omega) (by omega) (lv_sub hl [0, 1, 2, 3, 4] rfl)

set_option maxHeartbeats 4000000 in
set_option maxRecDepth 100000 in
/-- signSum() -/
theorem c_X1_signSum (l : Launch) (g : gT) (h a b : Nat) (f w : Nat → Int32) (n : Nat) (hn : n ≤ 40) : pM g l yX1_signSum wsX1_signSum { frames := 0, cells := 0, slots := 0, locals := 0 } [.ref (h)] (fun H => va_P (gD g) vwCl (ltW g h a b f w n) H) (.int (smF f n)) := by
  refine pu_ofI (cc := cX1_signSum) (maxL := 3) (by decide) rfl (Nat.le_of_ble_eq_true rfl) ?_
  intro p e s m args below meth c H ls Q hx hb hml hts hown hK hP hl hret
  have hl : lv_has ls 3 [(0, .ref (h))] := hl
  have S : CallFix p m c cX1_signSum 3 s args wsX1_signSum RX1 := ⟨hx, hb, hml, hown, hts⟩
  have iX1 : ∀ w ∈ u_ws RX1 TX1 3, w ∈ wsX1_signSum := by decide +kernel
  have f9 := hts (.fieldLink RX1 9 "LetterSeals$Letter" "signs" "[I") (by decide +kernel)
  have f18 := hts (.fieldLink RX1 18 "LetterSeals$Letter" "count" "I") (by decide +kernel)
  refine lv_iconst (v := 0) hx hb dX1_signSum_0 (by decide +kernel) ?_
  refine lv_istore_n (lv' := [(1, .int (0)), (0, .ref (h))]) hx hb dX1_signSum_1 rfl hl (by decide) rfl (fun ls hl => ?_)
  refine lv_iconst (v := nI (0)) hx hb dX1_signSum_2 (by decide +kernel) ?_
  refine lv_istore_n (lv' := [(2, .int (nI (0))), (1, .int (0)), (0, .ref (h))]) hx hb dX1_signSum_3 rfl hl (by decide) rfl (fun ls hl => ?_)
  have L4 : ∀ (k1 i : Nat) (ls : Array Slot), n - i < k1 → i ≤ n → lv_has ls 3 [(2, .int (nI i)), (1, .int (smF f i)), (0, .ref (h))] → W p l e { frames := 0, cells := 0, slots := 0, locals := 0 } s m args below meth c H [] 0 0 Q (F0 m 4 ls []) := by
    intro k1
    induction k1 with
    | zero => intro i ls hFu; exact absurd hFu (Nat.not_lt_zero _)
    | succ k1 ih1 =>
      intro i ls hFu hLe hl
      refine lv_iload_n hx hb dX1_signSum_4 rfl (lv_at hl 0 rfl) ?_
      refine lv_aload_n hx hb dX1_signSum_5 rfl (lv_at hl 2 rfl) ?_
      refine va_get (D := gD g) (ci := 1) (v := .int (nI n)) (C := RX1) (T := TX1) (N := 3) hx hb hts iX1 hown hK.1 hP 0 rfl rfl 2 (by decide) f18 (fun _ h9 => h9) rfl dX1_signSum_6 ?_
      refine br_ge (a := i) (b := n) (tgt := 27) hx hb (by omega) (by omega) dX1_signSum_9 (by decide) (fun c9 => ?_) (fun c9 => ?_)
      · obtain rfl : n = i := by omega
        refine lv_iload_n hx hb dX1_signSum_27 rfl (lv_at hl 1 rfl) ?_
        exact hret _ _ dX1_signSum_28
      · refine lv_iload_n hx hb dX1_signSum_12 rfl (lv_at hl 1 rfl) ?_
        refine lv_aload_n hx hb dX1_signSum_13 rfl (lv_at hl 2 rfl) ?_
        refine va_get (D := gD g) (ci := 1) (v := .ref (a)) (C := RX1) (T := TX1) (N := 3) hx hb hts iX1 hown hK.1 hP 0 rfl rfl 0 (by decide) f9 (fun _ h9 => h9) rfl dX1_signSum_14 ?_
        refine lv_iload_n hx hb dX1_signSum_17 rfl (lv_at hl 0 rfl) ?_
        refine ld_I (k := i) (n := 40) (f := f) hx hb hK.1 hP 1 rfl (by omega) (by omega) dX1_signSum_18 ?_
        refine lv_iadd hx hb dX1_signSum_19 ?_
        refine lv_toI (z := smF f (i + 1)) (rfl) ?_
        refine lv_istore_n (lv' := [(1, .int (smF f (i + 1))), (2, .int (nI i)), (0, .ref (h))]) hx hb dX1_signSum_20 rfl hl (by decide) rfl (fun ls hl => ?_)
        refine lv_iinc (v := nI (i + 1)) (lv' := [(2, .int (nI (i + 1))), (1, .int (smF f (i + 1))), (0, .ref (h))]) hx hb dX1_signSum_21 hl (k := 1) rfl (nI_1 _) (by decide) rfl (fun ls hl => ?_)
        refine lv_goto (tgt := 4) hx hb dX1_signSum_24 (by decide) ?_
        exact ih1 (i + 1) _ (by omega) (by omega) (lv_sub hl [0, 1, 2] rfl)
  exact L4 (n + 1) (0) _ (by omega) (by omega) (lv_sub hl [0, 1, 2] rfl)

set_option maxHeartbeats 4000000 in
set_option maxRecDepth 100000 in
/-- weightedSum() -/
theorem c_X1_weightedSum (l : Launch) (g : gT) (h a b : Nat) (f w : Nat → Int32) (n : Nat) (hn : n ≤ 40) : pM g l yX1_weightedSum wsX1_weightedSum { frames := 0, cells := 0, slots := 0, locals := 0 } [.ref (h)] (fun H => va_P (gD g) vwCl (ltW g h a b f w n) H) (.int (wtF f n)) := by
  refine pu_ofI (cc := cX1_weightedSum) (maxL := 3) (by decide) rfl (Nat.le_of_ble_eq_true rfl) ?_
  intro p e s m args below meth c H ls Q hx hb hml hts hown hK hP hl hret
  have hl : lv_has ls 3 [(0, .ref (h))] := hl
  have S : CallFix p m c cX1_weightedSum 3 s args wsX1_weightedSum RX1 := ⟨hx, hb, hml, hown, hts⟩
  have iX1 : ∀ w ∈ u_ws RX1 TX1 3, w ∈ wsX1_weightedSum := by decide +kernel
  have f9 := hts (.fieldLink RX1 9 "LetterSeals$Letter" "signs" "[I") (by decide +kernel)
  have f18 := hts (.fieldLink RX1 18 "LetterSeals$Letter" "count" "I") (by decide +kernel)
  refine lv_iconst (v := 0) hx hb dX1_weightedSum_0 (by decide +kernel) ?_
  refine lv_istore_n (lv' := [(1, .int (0)), (0, .ref (h))]) hx hb dX1_weightedSum_1 rfl hl (by decide) rfl (fun ls hl => ?_)
  refine lv_iconst (v := nI (0)) hx hb dX1_weightedSum_2 (by decide +kernel) ?_
  refine lv_istore_n (lv' := [(2, .int (nI (0))), (1, .int (0)), (0, .ref (h))]) hx hb dX1_weightedSum_3 rfl hl (by decide) rfl (fun ls hl => ?_)
  have L4 : ∀ (k1 i : Nat) (ls : Array Slot), n - i < k1 → i ≤ n → lv_has ls 3 [(2, .int (nI i)), (1, .int (wtF f i)), (0, .ref (h))] → W p l e { frames := 0, cells := 0, slots := 0, locals := 0 } s m args below meth c H [] 0 0 Q (F0 m 4 ls []) := by
    intro k1
    induction k1 with
    | zero => intro i ls hFu; exact absurd hFu (Nat.not_lt_zero _)
    | succ k1 ih1 =>
      intro i ls hFu hLe hl
      refine lv_iload_n hx hb dX1_weightedSum_4 rfl (lv_at hl 0 rfl) ?_
      refine lv_aload_n hx hb dX1_weightedSum_5 rfl (lv_at hl 2 rfl) ?_
      refine va_get (D := gD g) (ci := 1) (v := .int (nI n)) (C := RX1) (T := TX1) (N := 3) hx hb hts iX1 hown hK.1 hP 0 rfl rfl 2 (by decide) f18 (fun _ h9 => h9) rfl dX1_weightedSum_6 ?_
      refine br_ge (a := i) (b := n) (tgt := 31) hx hb (by omega) (by omega) dX1_weightedSum_9 (by decide) (fun c9 => ?_) (fun c9 => ?_)
      · obtain rfl : n = i := by omega
        refine lv_iload_n hx hb dX1_weightedSum_31 rfl (lv_at hl 1 rfl) ?_
        exact hret _ _ dX1_weightedSum_32
      · refine lv_iload_n hx hb dX1_weightedSum_12 rfl (lv_at hl 1 rfl) ?_
        refine lv_aload_n hx hb dX1_weightedSum_13 rfl (lv_at hl 2 rfl) ?_
        refine va_get (D := gD g) (ci := 1) (v := .ref (a)) (C := RX1) (T := TX1) (N := 3) hx hb hts iX1 hown hK.1 hP 0 rfl rfl 0 (by decide) f9 (fun _ h9 => h9) rfl dX1_weightedSum_14 ?_
        refine lv_iload_n hx hb dX1_weightedSum_17 rfl (lv_at hl 0 rfl) ?_
        refine ld_I (k := i) (n := 40) (f := f) hx hb hK.1 hP 1 rfl (by omega) (by omega) dX1_weightedSum_18 ?_
        refine lv_iload_n hx hb dX1_weightedSum_19 rfl (lv_at hl 0 rfl) ?_
        refine lv_iconst (v := nI (1)) hx hb dX1_weightedSum_20 (by decide +kernel) ?_
        refine lv_iadd hx hb dX1_weightedSum_21 ?_
        refine lv_toI (z := nI (i + 1)) (nI_add _ _) ?_
        refine lv_imul hx hb dX1_weightedSum_22 ?_
        refine lv_iadd hx hb dX1_weightedSum_23 ?_
        refine lv_toI (z := wtF f (i + 1)) (rfl) ?_
        refine lv_istore_n (lv' := [(1, .int (wtF f (i + 1))), (2, .int (nI i)), (0, .ref (h))]) hx hb dX1_weightedSum_24 rfl hl (by decide) rfl (fun ls hl => ?_)
        refine lv_iinc (v := nI (i + 1)) (lv' := [(2, .int (nI (i + 1))), (1, .int (wtF f (i + 1))), (0, .ref (h))]) hx hb dX1_weightedSum_25 hl (k := 1) rfl (nI_1 _) (by decide) rfl (fun ls hl => ?_)
        refine lv_goto (tgt := 4) hx hb dX1_weightedSum_28 (by decide) ?_
        exact ih1 (i + 1) _ (by omega) (by omega) (lv_sub hl [0, 1, 2] rfl)
  exact L4 (n + 1) (0) _ (by omega) (by omega) (lv_sub hl [0, 1, 2] rfl)

set_option maxHeartbeats 4000000 in
set_option maxRecDepth 100000 in
/-- unnoticedPlaces() -/
theorem c_X1_unnoticedPlaces (l : Launch) (g : gT) (h a b : Nat) (f w : Nat → Int32) (n : Nat) (hn : n ≤ 40) : pM g l yX1_unnoticedPlaces wsX1_unnoticedPlaces { frames := 0, cells := 0, slots := 0, locals := 0 } [.ref (h)] (fun H => va_P (gD g) vwCl (ltW g h a b f w n) H) (.int (unF f n)) := by
  refine pu_ofI (cc := cX1_unnoticedPlaces) (maxL := 4) (by decide) rfl (Nat.le_of_ble_eq_true rfl) ?_
  intro p e s m args below meth c H ls Q hx hb hml hts hown hK hP hl hret
  have hl : lv_has ls 4 [(0, .ref (h))] := hl
  have S : CallFix p m c cX1_unnoticedPlaces 4 s args wsX1_unnoticedPlaces RX1 := ⟨hx, hb, hml, hown, hts⟩
  have iX1 : ∀ w ∈ u_ws RX1 TX1 3, w ∈ wsX1_unnoticedPlaces := by decide +kernel
  have f9 := hts (.fieldLink RX1 9 "LetterSeals$Letter" "signs" "[I") (by decide +kernel)
  have f18 := hts (.fieldLink RX1 18 "LetterSeals$Letter" "count" "I") (by decide +kernel)
  refine lv_iconst (v := 0) hx hb dX1_unnoticedPlaces_0 (by decide +kernel) ?_
  refine lv_istore_n (lv' := [(1, .int (0)), (0, .ref (h))]) hx hb dX1_unnoticedPlaces_1 rfl hl (by decide) rfl (fun ls hl => ?_)
  refine lv_iconst (v := nI (0)) hx hb dX1_unnoticedPlaces_2 (by decide +kernel) ?_
  refine lv_istore_n (lv' := [(2, .int (nI (0))), (1, .int (0)), (0, .ref (h))]) hx hb dX1_unnoticedPlaces_3 rfl hl (by decide) rfl (fun ls hl => ?_)
  have L4 : ∀ (k1 i : Nat) (ls : Array Slot), n - i < k1 → i ≤ n → lv_has ls 4 [(2, .int (nI i)), (1, .int (unF f i)), (0, .ref (h))] → W p l e { frames := 0, cells := 0, slots := 0, locals := 0 } s m args below meth c H [] 0 0 Q (F0 m 4 ls []) := by
    intro k1
    induction k1 with
    | zero => intro i ls hFu; exact absurd hFu (Nat.not_lt_zero _)
    | succ k1 ih1 =>
      intro i ls hFu hLe hl
      refine lv_iload_n hx hb dX1_unnoticedPlaces_4 rfl (lv_at hl 0 rfl) ?_
      refine lv_aload_n hx hb dX1_unnoticedPlaces_5 rfl (lv_at hl 2 rfl) ?_
      refine va_get (D := gD g) (ci := 1) (v := .int (nI n)) (C := RX1) (T := TX1) (N := 3) hx hb hts iX1 hown hK.1 hP 0 rfl rfl 2 (by decide) f18 (fun _ h9 => h9) rfl dX1_unnoticedPlaces_6 ?_
      refine br_ge (a := i) (b := n) (tgt := 55) hx hb (by omega) (by omega) dX1_unnoticedPlaces_9 (by decide) (fun c9 => ?_) (fun c9 => ?_)
      · obtain rfl : n = i := by omega
        refine lv_iload_n hx hb dX1_unnoticedPlaces_55 rfl (lv_at hl 1 rfl) ?_
        exact hret _ _ dX1_unnoticedPlaces_56
      · refine lv_iload_n hx hb dX1_unnoticedPlaces_12 rfl (lv_at hl 0 rfl) ?_
        refine lv_iconst (v := 5) hx hb dX1_unnoticedPlaces_13 (by decide +kernel) ?_
        refine lv_irem hx hb dX1_unnoticedPlaces_14 (by decide +kernel) ?_
        refine lv_iconst (v := 1) hx hb dX1_unnoticedPlaces_15 (by decide +kernel) ?_
        refine lv_iadd hx hb dX1_unnoticedPlaces_16 ?_
        refine lv_bipush (v := 27) hx hb dX1_unnoticedPlaces_17 (by decide +kernel) ?_
        refine lv_aload_n hx hb dX1_unnoticedPlaces_19 rfl (lv_at hl 2 rfl) ?_
        refine va_get (D := gD g) (ci := 1) (v := .ref (a)) (C := RX1) (T := TX1) (N := 3) hx hb hts iX1 hown hK.1 hP 0 rfl rfl 0 (by decide) f9 (fun _ h9 => h9) rfl dX1_unnoticedPlaces_20 ?_
        refine lv_iload_n hx hb dX1_unnoticedPlaces_23 rfl (lv_at hl 0 rfl) ?_
        refine ld_I (k := i) (n := 40) (f := f) hx hb hK.1 hP 1 rfl (by omega) (by omega) dX1_unnoticedPlaces_24 ?_
        refine lv_isub hx hb dX1_unnoticedPlaces_25 ?_
        refine lv_imul hx hb dX1_unnoticedPlaces_26 ?_
        refine lv_toI (z := unC f i) (rfl) ?_
        refine lv_istore_n (lv' := [(3, .int (unC f i)), (2, .int (nI i)), (1, .int (unF f i)), (0, .ref (h))]) hx hb dX1_unnoticedPlaces_27 rfl hl (by decide) rfl (fun ls hl => ?_)
        refine lv_aload_n hx hb dX1_unnoticedPlaces_28 rfl (lv_at hl 3 rfl) ?_
        refine va_get (D := gD g) (ci := 1) (v := .ref (a)) (C := RX1) (T := TX1) (N := 3) hx hb hts iX1 hown hK.1 hP 0 rfl rfl 0 (by decide) f9 (fun _ h9 => h9) rfl dX1_unnoticedPlaces_29 ?_
        refine lv_iload_n hx hb dX1_unnoticedPlaces_32 rfl (lv_at hl 1 rfl) ?_
        refine ld_I (k := i) (n := 40) (f := f) hx hb hK.1 hP 1 rfl (by omega) (by omega) dX1_unnoticedPlaces_33 ?_
        refine lv_bipush (v := 27) hx hb dX1_unnoticedPlaces_34 (by decide +kernel) ?_
        refine lv_icmp_eq (tgt := 49) hx hb dX1_unnoticedPlaces_36 (by decide) (fun c36 => ?_) (fun c36 => ?_)
        · have e49 : unF f i = unF f (i + 1) := by rw [unF, if_neg (by unfold unP; simp_all)]
          rw [e49] at hl
          refine lv_iinc (v := nI (i + 1)) (lv' := [(2, .int (nI (i + 1))), (3, .int (unC f i)), (1, .int (unF f (i + 1))), (0, .ref (h))]) hx hb dX1_unnoticedPlaces_49 hl (k := 1) rfl (nI_1 _) (by decide) rfl (fun ls hl => ?_)
          refine lv_goto (tgt := 4) hx hb dX1_unnoticedPlaces_52 (by decide) ?_
          exact ih1 (i + 1) _ (by omega) (by omega) (lv_sub hl [0, 2, 3] rfl)
        · refine lv_iload_n hx hb dX1_unnoticedPlaces_39 rfl (lv_at hl 0 rfl) ?_
          refine lv_bipush (v := 32) hx hb dX1_unnoticedPlaces_40 (by decide +kernel) ?_
          refine lv_irem hx hb dX1_unnoticedPlaces_42 (by decide +kernel) ?_
          refine lv_toI (z := rm (unC f i) 32) (rfl) ?_
          refine lv_if_ne (tgt := 49) hx hb dX1_unnoticedPlaces_43 (by decide) (fun c43 => ?_) (fun c43 => ?_)
          · have e49 : unF f i = unF f (i + 1) := by rw [unF, if_neg (by unfold unP; simp_all)]
            rw [e49] at hl
            refine lv_iinc (v := nI (i + 1)) (lv' := [(2, .int (nI (i + 1))), (3, .int (unC f i)), (1, .int (unF f (i + 1))), (0, .ref (h))]) hx hb dX1_unnoticedPlaces_49 hl (k := 1) rfl (nI_1 _) (by decide) rfl (fun ls hl => ?_)
            refine lv_goto (tgt := 4) hx hb dX1_unnoticedPlaces_52 (by decide) ?_
            exact ih1 (i + 1) _ (by omega) (by omega) (lv_sub hl [0, 2, 3] rfl)
          · refine lv_iinc (v := unF f (i + 1)) (lv' := [(1, .int (unF f (i + 1))), (3, .int (unC f i)), (2, .int (nI i)), (0, .ref (h))]) hx hb dX1_unnoticedPlaces_46 hl (k := 2) rfl (by rw [unF, if_pos (by unfold unP; simp_all)]; rfl) (by decide) rfl (fun ls hl => ?_)
            refine lv_iinc (v := nI (i + 1)) (lv' := [(2, .int (nI (i + 1))), (1, .int (unF f (i + 1))), (3, .int (unC f i)), (0, .ref (h))]) hx hb dX1_unnoticedPlaces_49 hl (k := 2) rfl (nI_1 _) (by decide) rfl (fun ls hl => ?_)
            refine lv_goto (tgt := 4) hx hb dX1_unnoticedPlaces_52 (by decide) ?_
            exact ih1 (i + 1) _ (by omega) (by omega) (lv_sub hl [0, 1, 3] rfl)
  exact L4 (n + 1) (0) _ (by omega) (by omega) (lv_sub hl [0, 1, 2] rfl)
