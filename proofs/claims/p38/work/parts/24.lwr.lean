set_option maxHeartbeats 4000000 in
set_option maxRecDepth 100000 in
/-- append(x) -/
theorem c_X1_append (l : Launch) (g : gT) (h a b : Nat) (f w : Nat → Int32) (n : Nat) (hn : n ≤ 40) (x : Int32) (hn1 : n < 40) : wM g l yX1_append wsX1_append { frames := 0, cells := 0, slots := 0, locals := 0 } [.ref (h), .int (x)] (ltW g h a b f w n) none (ltW g h a b (upd f n x) w (n + 1)) := by
  refine wr_ofV (cc := cX1_append) (maxL := 2) (by decide) rfl (Nat.le_of_ble_eq_true rfl) ?_
  intro p e s m args below meth c H0 ls A Q hx hb hml hts hown hK hP hD hS hl hret
  have hl : lv_has ls 2 [(0, .ref (h)), (1, .int (x))] := hl
  have S : CallFix p m c cX1_append 2 s args wsX1_append RX1 := ⟨hx, hb, hml, hown, hts⟩
  have iX1 : ∀ w ∈ u_ws RX1 TX1 3, w ∈ wsX1_append := by decide +kernel
  have f9 := hts (.fieldLink RX1 9 "LetterSeals$Letter" "signs" "[I") (by decide +kernel)
  have f18 := hts (.fieldLink RX1 18 "LetterSeals$Letter" "count" "I") (by decide +kernel)
  obtain ⟨H, eH⟩ : ∃ H : Heap, H = H0 := ⟨_, rfl⟩
  rw [← eH] at hP ⊢
  have hS : va_S A H0 H [] := by rw [eH]; exact hS
  have hP : va_P (gD g) vwCl [(h, .inr (1, [.ref (a), .ref (b), .int (nI n)])), (a, .inl (gI g, 40, .inl (f))), (b, .inl (gI g, 40, .inl (w)))] H := hP
  have hD : va_D A [(h, .inr (1, [.ref (a), .ref (b), .int (nI n)])), (a, .inl (gI g, 40, .inl (f))), (b, .inl (gI g, 40, .inl (w)))] := hD
  refine lv_aload_n hx hb dX1_append_0 rfl (lv_at hl 0 rfl) ?_
  refine va_get (D := gD g) (ci := 1) (v := .ref (a)) (C := RX1) (T := TX1) (N := 3) hx hb hts iX1 hown hK.1 hP 0 rfl rfl 0 (by decide) f9 (fun _ h9 => h9) rfl dX1_append_1 ?_
  refine lv_aload_n hx hb dX1_append_4 rfl (lv_at hl 0 rfl) ?_
  refine va_get (D := gD g) (ci := 1) (v := .int (nI n)) (C := RX1) (T := TX1) (N := 3) hx hb hts iX1 hown hK.1 hP 0 rfl rfl 2 (by decide) f18 (fun _ h9 => h9) rfl dX1_append_5 ?_
  refine lv_iload_n hx hb dX1_append_8 rfl (lv_at hl 1 rfl) ?_
  refine st_I (k := n) (n := 40) (f := f) (x := x) hx hb hK.1 hP hD hS 1 rfl (by omega) (by omega) dX1_append_9 (fun H locs hP hD hS => ?_)
  have hP : va_P (gD g) vwCl [(h, .inr (1, [.ref (a), .ref (b), .int (nI n)])), (a, .inl (gI g, 40, .inl (upd (f) (n) (x)))), (b, .inl (gI g, 40, .inl (w)))] H := hP
  have hD : va_D A [(h, .inr (1, [.ref (a), .ref (b), .int (nI n)])), (a, .inl (gI g, 40, .inl (upd (f) (n) (x)))), (b, .inl (gI g, 40, .inl (w)))] := hD
  refine lv_aload_n hx hb dX1_append_10 rfl (lv_at hl 0 rfl) ?_
  refine lv_dup hx hb dX1_append_11 rfl ?_
  refine va_get (D := gD g) (ci := 1) (v := .int (nI n)) (C := RX1) (T := TX1) (N := 3) hx hb hts iX1 hown hK.1 hP 0 rfl rfl 2 (by decide) f18 (fun _ h9 => h9) rfl dX1_append_12 ?_
  refine lv_iconst (v := nI (1)) hx hb dX1_append_15 (by decide +kernel) ?_
  refine lv_iadd hx hb dX1_append_16 ?_
  refine lv_toI (z := nI (n + 1)) (nI_add _ _) ?_
  refine va_put (D := gD g) (ci := 1) (v := .int (nI (n + 1))) (ty := .int) (C := RX1) (T := TX1) (N := 3) hx hb hts iX1 tyX1 tyX1_ok nmX1 hown hK.1 hP hD hS 0 rfl rfl 2 (by decide) f18 (fun _ h9 => h9) rfl (by decide +kernel) rfl rfl (Nat.le_of_ble_eq_true rfl) dX1_append_17 (fun H locs hP hD hS => ?_)
  have hP : va_P (gD g) vwCl [(h, .inr (1, [.ref (a), .ref (b), .int (nI (n + 1))])), (a, .inl (gI g, 40, .inl (upd (f) (n) (x)))), (b, .inl (gI g, 40, .inl (w)))] H := hP
  have hD : va_D A [(h, .inr (1, [.ref (a), .ref (b), .int (nI (n + 1))])), (a, .inl (gI g, 40, .inl (upd (f) (n) (x)))), (b, .inl (gI g, 40, .inl (w)))] := hD
  exact hret _ _ _ _ hP hS dX1_append_20

set_option maxHeartbeats 4000000 in
set_option maxRecDepth 100000 in
/-- removeLast() -/
theorem c_X1_removeLast (l : Launch) (g : gT) (h a b : Nat) (f w : Nat → Int32) (n : Nat) (hn : n ≤ 40) (hn1 : 0 < n) : wM g l yX1_removeLast wsX1_removeLast { frames := 0, cells := 0, slots := 0, locals := 0 } [.ref (h)] (ltW g h a b f w n) (some (.int (f (n - 1)))) (ltW g h a b f w (n - 1)) := by
  refine wr_ofI (cc := cX1_removeLast) (maxL := 1) (by decide) rfl (Nat.le_of_ble_eq_true rfl) ?_
  intro p e s m args below meth c H0 ls A Q hx hb hml hts hown hK hP hD hS hl hret
  have hl : lv_has ls 1 [(0, .ref (h))] := hl
  have S : CallFix p m c cX1_removeLast 1 s args wsX1_removeLast RX1 := ⟨hx, hb, hml, hown, hts⟩
  have iX1 : ∀ w ∈ u_ws RX1 TX1 3, w ∈ wsX1_removeLast := by decide +kernel
  have f9 := hts (.fieldLink RX1 9 "LetterSeals$Letter" "signs" "[I") (by decide +kernel)
  have f18 := hts (.fieldLink RX1 18 "LetterSeals$Letter" "count" "I") (by decide +kernel)
  obtain ⟨H, eH⟩ : ∃ H : Heap, H = H0 := ⟨_, rfl⟩
  rw [← eH] at hP ⊢
  have hS : va_S A H0 H [] := by rw [eH]; exact hS
  have hP : va_P (gD g) vwCl [(h, .inr (1, [.ref (a), .ref (b), .int (nI n)])), (a, .inl (gI g, 40, .inl (f))), (b, .inl (gI g, 40, .inl (w)))] H := hP
  have hD : va_D A [(h, .inr (1, [.ref (a), .ref (b), .int (nI n)])), (a, .inl (gI g, 40, .inl (f))), (b, .inl (gI g, 40, .inl (w)))] := hD
  refine lv_aload_n hx hb dX1_removeLast_0 rfl (lv_at hl 0 rfl) ?_
  refine lv_dup hx hb dX1_removeLast_1 rfl ?_
  refine va_get (D := gD g) (ci := 1) (v := .int (nI n)) (C := RX1) (T := TX1) (N := 3) hx hb hts iX1 hown hK.1 hP 0 rfl rfl 2 (by decide) f18 (fun _ h9 => h9) rfl dX1_removeLast_2 ?_
  refine lv_iconst (v := nI (1)) hx hb dX1_removeLast_5 (by decide +kernel) ?_
  refine lv_isub hx hb dX1_removeLast_6 ?_
  refine lv_toI (z := nI (n - 1)) (pk_sub (by omega)) ?_
  refine va_put (D := gD g) (ci := 1) (v := .int (nI (n - 1))) (ty := .int) (C := RX1) (T := TX1) (N := 3) hx hb hts iX1 tyX1 tyX1_ok nmX1 hown hK.1 hP hD hS 0 rfl rfl 2 (by decide) f18 (fun _ h9 => h9) rfl (by decide +kernel) rfl rfl (Nat.le_of_ble_eq_true rfl) dX1_removeLast_7 (fun H locs hP hD hS => ?_)
  have hP : va_P (gD g) vwCl [(h, .inr (1, [.ref (a), .ref (b), .int (nI (n - 1))])), (a, .inl (gI g, 40, .inl (f))), (b, .inl (gI g, 40, .inl (w)))] H := hP
  have hD : va_D A [(h, .inr (1, [.ref (a), .ref (b), .int (nI (n - 1))])), (a, .inl (gI g, 40, .inl (f))), (b, .inl (gI g, 40, .inl (w)))] := hD
  refine lv_aload_n hx hb dX1_removeLast_10 rfl (lv_at hl 0 rfl) ?_
  refine va_get (D := gD g) (ci := 1) (v := .ref (a)) (C := RX1) (T := TX1) (N := 3) hx hb hts iX1 hown hK.1 hP 0 rfl rfl 0 (by decide) f9 (fun _ h9 => h9) rfl dX1_removeLast_11 ?_
  refine lv_aload_n hx hb dX1_removeLast_14 rfl (lv_at hl 0 rfl) ?_
  refine va_get (D := gD g) (ci := 1) (v := .int (nI (n - 1))) (C := RX1) (T := TX1) (N := 3) hx hb hts iX1 hown hK.1 hP 0 rfl rfl 2 (by decide) f18 (fun _ h9 => h9) rfl dX1_removeLast_15 ?_
  refine ld_I (k := n - 1) (n := 40) (f := f) hx hb hK.1 hP 1 rfl (by omega) (by omega) dX1_removeLast_18 ?_
  exact hret _ _ _ _ hP hS dX1_removeLast_19

set_option maxHeartbeats 4000000 in
set_option maxRecDepth 100000 in
/-- replace(k, x) -/
theorem c_X1_replace (l : Launch) (g : gT) (h a b : Nat) (f w : Nat → Int32) (n : Nat) (hn : n ≤ 40) (k : Nat) (hk : k < n) (x : Int32) : wM g l yX1_replace wsX1_replace { frames := 0, cells := 0, slots := 0, locals := 0 } [.ref (h), .int (nI k), .int (x)] (ltW g h a b f w n) (some (.int (f k))) (ltW g h a b (upd f k x) w n) := by
  refine wr_ofI (cc := cX1_replace) (maxL := 4) (by decide) rfl (Nat.le_of_ble_eq_true rfl) ?_
  intro p e s m args below meth c H0 ls A Q hx hb hml hts hown hK hP hD hS hl hret
  have hl : lv_has ls 4 [(0, .ref (h)), (1, .int (nI k)), (2, .int (x))] := hl
  have S : CallFix p m c cX1_replace 4 s args wsX1_replace RX1 := ⟨hx, hb, hml, hown, hts⟩
  have iX1 : ∀ w ∈ u_ws RX1 TX1 3, w ∈ wsX1_replace := by decide +kernel
  have f9 := hts (.fieldLink RX1 9 "LetterSeals$Letter" "signs" "[I") (by decide +kernel)
  obtain ⟨H, eH⟩ : ∃ H : Heap, H = H0 := ⟨_, rfl⟩
  rw [← eH] at hP ⊢
  have hS : va_S A H0 H [] := by rw [eH]; exact hS
  have hP : va_P (gD g) vwCl [(h, .inr (1, [.ref (a), .ref (b), .int (nI n)])), (a, .inl (gI g, 40, .inl (f))), (b, .inl (gI g, 40, .inl (w)))] H := hP
  have hD : va_D A [(h, .inr (1, [.ref (a), .ref (b), .int (nI n)])), (a, .inl (gI g, 40, .inl (f))), (b, .inl (gI g, 40, .inl (w)))] := hD
  refine lv_aload_n hx hb dX1_replace_0 rfl (lv_at hl 0 rfl) ?_
  refine va_get (D := gD g) (ci := 1) (v := .ref (a)) (C := RX1) (T := TX1) (N := 3) hx hb hts iX1 hown hK.1 hP 0 rfl rfl 0 (by decide) f9 (fun _ h9 => h9) rfl dX1_replace_1 ?_
  refine lv_iload_n hx hb dX1_replace_4 rfl (lv_at hl 1 rfl) ?_
  refine ld_I (k := k) (n := 40) (f := f) hx hb hK.1 hP 1 rfl (by omega) (by omega) dX1_replace_5 ?_
  refine lv_istore_n (lv' := [(3, .int (f (k))), (0, .ref (h)), (1, .int (nI k)), (2, .int (x))]) hx hb dX1_replace_6 rfl hl (by decide) rfl (fun ls hl => ?_)
  refine lv_aload_n hx hb dX1_replace_7 rfl (lv_at hl 1 rfl) ?_
  refine va_get (D := gD g) (ci := 1) (v := .ref (a)) (C := RX1) (T := TX1) (N := 3) hx hb hts iX1 hown hK.1 hP 0 rfl rfl 0 (by decide) f9 (fun _ h9 => h9) rfl dX1_replace_8 ?_
  refine lv_iload_n hx hb dX1_replace_11 rfl (lv_at hl 2 rfl) ?_
  refine lv_iload_n hx hb dX1_replace_12 rfl (lv_at hl 3 rfl) ?_
  refine st_I (k := k) (n := 40) (f := f) (x := x) hx hb hK.1 hP hD hS 1 rfl (by omega) (by omega) dX1_replace_13 (fun H locs hP hD hS => ?_)
  have hP : va_P (gD g) vwCl [(h, .inr (1, [.ref (a), .ref (b), .int (nI n)])), (a, .inl (gI g, 40, .inl (upd (f) (k) (x)))), (b, .inl (gI g, 40, .inl (w)))] H := hP
  have hD : va_D A [(h, .inr (1, [.ref (a), .ref (b), .int (nI n)])), (a, .inl (gI g, 40, .inl (upd (f) (k) (x)))), (b, .inl (gI g, 40, .inl (w)))] := hD
  refine lv_iload_n hx hb dX1_replace_14 rfl (lv_at hl 0 rfl) ?_
  exact hret _ _ _ _ hP hS dX1_replace_15

set_option maxHeartbeats 4000000 in
set_option maxRecDepth 100000 in
/-- copySigns(original) -/
theorem c_X1_copySigns (l : Launch) (g : gT) (h a b h2 a2 b2 : Nat) (f w f2 w2 : Nat → Int32) (n n2 : Nat) (hn : n ≤ 40) (hn2 : n2 ≤ 40) : wM g l yX1_copySigns wsX1_copySigns { frames := 0, cells := 0, slots := 0, locals := 0 } [.ref (h), .ref (h2)] (ltW g h a b f w n ++ ltW g h2 a2 b2 f2 w2 n2) none (ltW g h a b (flF f f2 n2) w n2 ++ ltW g h2 a2 b2 f2 w2 n2) := by
  refine wr_ofV (cc := cX1_copySigns) (maxL := 3) (by decide) rfl (Nat.le_of_ble_eq_true rfl) ?_
  intro p e s m args below meth c H0 ls A Q hx hb hml hts hown hK hP hD hS hl hret
  have hl : lv_has ls 3 [(0, .ref (h)), (1, .ref (h2))] := hl
  have S : CallFix p m c cX1_copySigns 3 s args wsX1_copySigns RX1 := ⟨hx, hb, hml, hown, hts⟩
  have iX1 : ∀ w ∈ u_ws RX1 TX1 3, w ∈ wsX1_copySigns := by decide +kernel
  have f9 := hts (.fieldLink RX1 9 "LetterSeals$Letter" "signs" "[I") (by decide +kernel)
  have f18 := hts (.fieldLink RX1 18 "LetterSeals$Letter" "count" "I") (by decide +kernel)
  obtain ⟨H, eH⟩ : ∃ H : Heap, H = H0 := ⟨_, rfl⟩
  rw [← eH] at hP ⊢
  have hS : va_S A H0 H [] := by rw [eH]; exact hS
  have hP : va_P (gD g) vwCl [(h, .inr (1, [.ref (a), .ref (b), .int (nI n)])), (a, .inl (gI g, 40, .inl (f))), (b, .inl (gI g, 40, .inl (w))), (h2, .inr (1, [.ref (a2), .ref (b2), .int (nI n2)])), (a2, .inl (gI g, 40, .inl (f2))), (b2, .inl (gI g, 40, .inl (w2)))] H := hP
  have hD : va_D A [(h, .inr (1, [.ref (a), .ref (b), .int (nI n)])), (a, .inl (gI g, 40, .inl (f))), (b, .inl (gI g, 40, .inl (w))), (h2, .inr (1, [.ref (a2), .ref (b2), .int (nI n2)])), (a2, .inl (gI g, 40, .inl (f2))), (b2, .inl (gI g, 40, .inl (w2)))] := hD
  refine lv_iconst (v := nI (0)) hx hb dX1_copySigns_0 (by decide +kernel) ?_
  refine lv_istore_n (lv' := [(2, .int (nI (0))), (0, .ref (h)), (1, .ref (h2))]) hx hb dX1_copySigns_1 rfl hl (by decide) rfl (fun ls hl => ?_)
  have L2 : ∀ (k1 i : Nat) (H : Heap) (locs : List Loc) (ls : Array Slot), n2 - i < k1 → i ≤ n2 → va_P (gD g) vwCl [(h, .inr (1, [.ref (a), .ref (b), .int (nI n)])), (a, .inl (gI g, 40, .inl (flF f f2 i))), (b, .inl (gI g, 40, .inl (w))), (h2, .inr (1, [.ref (a2), .ref (b2), .int (nI n2)])), (a2, .inl (gI g, 40, .inl (f2))), (b2, .inl (gI g, 40, .inl (w2)))] H → va_D A [(h, .inr (1, [.ref (a), .ref (b), .int (nI n)])), (a, .inl (gI g, 40, .inl (flF f f2 i))), (b, .inl (gI g, 40, .inl (w))), (h2, .inr (1, [.ref (a2), .ref (b2), .int (nI n2)])), (a2, .inl (gI g, 40, .inl (f2))), (b2, .inl (gI g, 40, .inl (w2)))] → va_S A H0 H locs → lv_has ls 3 [(2, .int (nI i)), (0, .ref (h)), (1, .ref (h2))] → W p l e { frames := 0, cells := 0, slots := 0, locals := 0 } s m args below meth c H locs 0 0 Q (F0 m 2 ls []) := by
    intro k1
    induction k1 with
    | zero => intro i H locs ls hFu; exact absurd hFu (Nat.not_lt_zero _)
    | succ k1 ih1 =>
      intro i H locs ls hFu hLe hP hD hS hl
      refine lv_iload_n hx hb dX1_copySigns_2 rfl (lv_at hl 0 rfl) ?_
      refine lv_aload_n hx hb dX1_copySigns_3 rfl (lv_at hl 2 rfl) ?_
      refine va_get (D := gD g) (ci := 1) (v := .int (nI n2)) (C := RX1) (T := TX1) (N := 3) hx hb hts iX1 hown hK.1 hP 3 rfl rfl 2 (by decide) f18 (fun _ h9 => h9) rfl dX1_copySigns_4 ?_
      refine br_ge (a := i) (b := n2) (tgt := 28) hx hb (by omega) (by omega) dX1_copySigns_7 (by decide) (fun c7 => ?_) (fun c7 => ?_)
      · obtain rfl : n2 = i := by omega
        refine lv_aload_n hx hb dX1_copySigns_28 rfl (lv_at hl 1 rfl) ?_
        refine lv_aload_n hx hb dX1_copySigns_29 rfl (lv_at hl 2 rfl) ?_
        refine va_get (D := gD g) (ci := 1) (v := .int (nI n2)) (C := RX1) (T := TX1) (N := 3) hx hb hts iX1 hown hK.1 hP 3 rfl rfl 2 (by decide) f18 (fun _ h9 => h9) rfl dX1_copySigns_30 ?_
        refine va_put (D := gD g) (ci := 1) (v := .int (nI n2)) (ty := .int) (C := RX1) (T := TX1) (N := 3) hx hb hts iX1 tyX1 tyX1_ok nmX1 hown hK.1 hP hD hS 0 rfl rfl 2 (by decide) f18 (fun _ h9 => h9) rfl (by decide +kernel) rfl rfl (Nat.le_of_ble_eq_true rfl) dX1_copySigns_33 (fun H locs hP hD hS => ?_)
        have hP : va_P (gD g) vwCl [(h, .inr (1, [.ref (a), .ref (b), .int (nI n2)])), (a, .inl (gI g, 40, .inl (flF f f2 n2))), (b, .inl (gI g, 40, .inl (w))), (h2, .inr (1, [.ref (a2), .ref (b2), .int (nI n2)])), (a2, .inl (gI g, 40, .inl (f2))), (b2, .inl (gI g, 40, .inl (w2)))] H := hP
        have hD : va_D A [(h, .inr (1, [.ref (a), .ref (b), .int (nI n2)])), (a, .inl (gI g, 40, .inl (flF f f2 n2))), (b, .inl (gI g, 40, .inl (w))), (h2, .inr (1, [.ref (a2), .ref (b2), .int (nI n2)])), (a2, .inl (gI g, 40, .inl (f2))), (b2, .inl (gI g, 40, .inl (w2)))] := hD
        exact hret _ _ _ _ hP hS dX1_copySigns_36
      · refine lv_aload_n hx hb dX1_copySigns_10 rfl (lv_at hl 1 rfl) ?_
        refine va_get (D := gD g) (ci := 1) (v := .ref (a)) (C := RX1) (T := TX1) (N := 3) hx hb hts iX1 hown hK.1 hP 0 rfl rfl 0 (by decide) f9 (fun _ h9 => h9) rfl dX1_copySigns_11 ?_
        refine lv_iload_n hx hb dX1_copySigns_14 rfl (lv_at hl 0 rfl) ?_
        refine lv_aload_n hx hb dX1_copySigns_15 rfl (lv_at hl 2 rfl) ?_
        refine va_get (D := gD g) (ci := 1) (v := .ref (a2)) (C := RX1) (T := TX1) (N := 3) hx hb hts iX1 hown hK.1 hP 3 rfl rfl 0 (by decide) f9 (fun _ h9 => h9) rfl dX1_copySigns_16 ?_
        refine lv_iload_n hx hb dX1_copySigns_19 rfl (lv_at hl 0 rfl) ?_
        refine ld_I (k := i) (n := 40) (f := f2) hx hb hK.1 hP 4 rfl (by omega) (by omega) dX1_copySigns_20 ?_
        refine st_I (k := i) (n := 40) (f := flF f f2 i) (x := f2 (i)) hx hb hK.1 hP hD hS 1 rfl (by omega) (by omega) dX1_copySigns_21 (fun H locs hP hD hS => ?_)
        have hP : va_P (gD g) vwCl [(h, .inr (1, [.ref (a), .ref (b), .int (nI n)])), (a, .inl (gI g, 40, .inl (upd (flF f f2 i) (i) (f2 (i))))), (b, .inl (gI g, 40, .inl (w))), (h2, .inr (1, [.ref (a2), .ref (b2), .int (nI n2)])), (a2, .inl (gI g, 40, .inl (f2))), (b2, .inl (gI g, 40, .inl (w2)))] H := hP
        have hD : va_D A [(h, .inr (1, [.ref (a), .ref (b), .int (nI n)])), (a, .inl (gI g, 40, .inl (upd (flF f f2 i) (i) (f2 (i))))), (b, .inl (gI g, 40, .inl (w))), (h2, .inr (1, [.ref (a2), .ref (b2), .int (nI n2)])), (a2, .inl (gI g, 40, .inl (f2))), (b2, .inl (gI g, 40, .inl (w2)))] := hD
        have hP : va_P (gD g) vwCl [(h, .inr (1, [.ref (a), .ref (b), .int (nI n)])), (a, .inl (gI g, 40, .inl (flF f f2 (i + 1)))), (b, .inl (gI g, 40, .inl (w))), (h2, .inr (1, [.ref (a2), .ref (b2), .int (nI n2)])), (a2, .inl (gI g, 40, .inl (f2))), (b2, .inl (gI g, 40, .inl (w2)))] H := by rw [flF_up]; exact hP
        have hD : va_D A [(h, .inr (1, [.ref (a), .ref (b), .int (nI n)])), (a, .inl (gI g, 40, .inl (flF f f2 (i + 1)))), (b, .inl (gI g, 40, .inl (w))), (h2, .inr (1, [.ref (a2), .ref (b2), .int (nI n2)])), (a2, .inl (gI g, 40, .inl (f2))), (b2, .inl (gI g, 40, .inl (w2)))] := by rw [flF_up]; exact hD
        refine lv_iinc (v := nI (i + 1)) (lv' := [(2, .int (nI (i + 1))), (0, .ref (h)), (1, .ref (h2))]) hx hb dX1_copySigns_22 hl (k := 0) rfl (nI_1 _) (by decide) rfl (fun ls hl => ?_)
        refine lv_goto (tgt := 2) hx hb dX1_copySigns_25 (by decide) ?_
        exact ih1 (i + 1) _ _ _ (by omega) (by omega) hP hD hS (lv_sub hl [0, 1, 2] rfl)
  exact L2 (n2 + 1) (0) _ _ _ (by omega) (by omega) (by rw [flF_0]; exact hP) (by rw [flF_0]; exact hD) hS (lv_sub hl [0, 1, 2] rfl)

set_option maxHeartbeats 4000000 in
set_option maxRecDepth 100000 in
/-- fillWindowSums(t), t signs or more -/
theorem c_X1_fillWindowSums (l : Launch) (g : gT) (h a b : Nat) (f w : Nat → Int32) (n : Nat) (hn : n ≤ 40) (t : Nat) (ht : 1 ≤ t) (ht2 : t ≤ n) : wM g l yX1_fillWindowSums wsX1_fillWindowSums { frames := 1, cells := 0, slots := 0, locals := 24 } [.ref (h), .int (nI t)] (ltW g h a b f w n) (some (.int (nI (n - t + 1)))) (ltW g h a b f (flF w (fun o => wnF f o t) (n - t + 1)) n) := by
  refine wr_ofI (cc := cX1_fillWindowSums) (maxL := 4) (by decide) rfl (Nat.le_of_ble_eq_true rfl) ?_
  intro p e s m args below meth c H0 ls A Q hx hb hml hts hown hK hP hD hS hl hret
  have hl : lv_has ls 4 [(0, .ref (h)), (1, .int (nI t))] := hl
  have S : CallFix p m c cX1_fillWindowSums 4 s args wsX1_fillWindowSums RX1 := ⟨hx, hb, hml, hown, hts⟩
  have iX1 : ∀ w ∈ u_ws RX1 TX1 3, w ∈ wsX1_fillWindowSums := by decide +kernel
  have f15 := hts (.fieldLink RX1 15 "LetterSeals$Letter" "windowSums" "[I") (by decide +kernel)
  have f18 := hts (.fieldLink RX1 18 "LetterSeals$Letter" "count" "I") (by decide +kernel)
  obtain ⟨H, eH⟩ : ∃ H : Heap, H = H0 := ⟨_, rfl⟩
  rw [← eH] at hP ⊢
  have hS : va_S A H0 H [] := by rw [eH]; exact hS
  have hP : va_P (gD g) vwCl [(h, .inr (1, [.ref (a), .ref (b), .int (nI n)])), (a, .inl (gI g, 40, .inl (f))), (b, .inl (gI g, 40, .inl (w)))] H := hP
  have hD : va_D A [(h, .inr (1, [.ref (a), .ref (b), .int (nI n)])), (a, .inl (gI g, 40, .inl (f))), (b, .inl (gI g, 40, .inl (w)))] := hD
  refine lv_aload_n hx hb dX1_fillWindowSums_0 rfl (lv_at hl 0 rfl) ?_
  refine va_get (D := gD g) (ci := 1) (v := .int (nI n)) (C := RX1) (T := TX1) (N := 3) hx hb hts iX1 hown hK.1 hP 0 rfl rfl 2 (by decide) f18 (fun _ h9 => h9) rfl dX1_fillWindowSums_1 ?_
  refine lv_iload_n hx hb dX1_fillWindowSums_4 rfl (lv_at hl 1 rfl) ?_
  refine lv_isub hx hb dX1_fillWindowSums_5 ?_
  refine lv_toI (z := nI (n - t)) (pk_sub (by omega)) ?_
  refine lv_iconst (v := nI (1)) hx hb dX1_fillWindowSums_6 (by decide +kernel) ?_
  refine lv_iadd hx hb dX1_fillWindowSums_7 ?_
  refine lv_toI (z := nI (n - t + 1)) (nI_add _ _) ?_
  refine lv_istore_n (lv' := [(2, .int (nI (n - t + 1))), (0, .ref (h)), (1, .int (nI t))]) hx hb dX1_fillWindowSums_8 rfl hl (by decide) rfl (fun ls hl => ?_)
  refine lv_iconst (v := nI (0)) hx hb dX1_fillWindowSums_9 (by decide +kernel) ?_
  refine lv_istore_n (lv' := [(3, .int (nI (0))), (2, .int (nI (n - t + 1))), (0, .ref (h)), (1, .int (nI t))]) hx hb dX1_fillWindowSums_10 rfl hl (by decide) rfl (fun ls hl => ?_)
  have L11 : ∀ (k1 i : Nat) (H : Heap) (locs : List Loc) (ls : Array Slot), (n - t + 1) - i < k1 → i ≤ (n - t + 1) → va_P (gD g) vwCl [(h, .inr (1, [.ref (a), .ref (b), .int (nI n)])), (a, .inl (gI g, 40, .inl (f))), (b, .inl (gI g, 40, .inl (flF w (fun o => wnF f o t) i)))] H → va_D A [(h, .inr (1, [.ref (a), .ref (b), .int (nI n)])), (a, .inl (gI g, 40, .inl (f))), (b, .inl (gI g, 40, .inl (flF w (fun o => wnF f o t) i)))] → va_S A H0 H locs → lv_has ls 4 [(3, .int (nI i)), (2, .int (nI (n - t + 1))), (0, .ref (h)), (1, .int (nI t))] → W p l e { frames := 1, cells := 0, slots := 0, locals := 24 } s m args below meth c H locs 0 0 Q (F0 m 11 ls []) := by
    intro k1
    induction k1 with
    | zero => intro i H locs ls hFu; exact absurd hFu (Nat.not_lt_zero _)
    | succ k1 ih1 =>
      intro i H locs ls hFu hLe hP hD hS hl
      refine lv_iload_n hx hb dX1_fillWindowSums_11 rfl (lv_at hl 0 rfl) ?_
      refine lv_iload_n hx hb dX1_fillWindowSums_12 rfl (lv_at hl 1 rfl) ?_
      refine br_ge (a := i) (b := n - t + 1) (tgt := 34) hx hb (by omega) (by omega) dX1_fillWindowSums_13 (by decide) (fun c13 => ?_) (fun c13 => ?_)
      · have ei : i = n - t + 1 := by omega
        rw [ei] at hP
        refine lv_iload_n hx hb dX1_fillWindowSums_34 rfl (lv_at hl 1 rfl) ?_
        exact hret _ _ _ _ hP hS dX1_fillWindowSums_35
      · refine lv_aload_n hx hb dX1_fillWindowSums_16 rfl (lv_at hl 2 rfl) ?_
        refine va_get (D := gD g) (ci := 1) (v := .ref (b)) (C := RX1) (T := TX1) (N := 3) hx hb hts iX1 hown hK.1 hP 0 rfl rfl 1 (by decide) f15 (fun _ h9 => h9) rfl dX1_fillWindowSums_17 ?_
        refine lv_iload_n hx hb dX1_fillWindowSums_20 rfl (lv_at hl 0 rfl) ?_
        refine lv_aload_n hx hb dX1_fillWindowSums_21 rfl (lv_at hl 2 rfl) ?_
        refine lv_iload_n hx hb dX1_fillWindowSums_22 rfl (lv_at hl 0 rfl) ?_
        refine lv_iload_n hx hb dX1_fillWindowSums_23 rfl (lv_at hl 3 rfl) ?_
        refine p_V (As := [.int (nI i), .int (nI t)]) (rest := [.int (nI i), .ref (b)]) S (c_X1_windowSum l g h a b f _ n hn i t (by omega)) (cwV 2 hts gX1_fillWindowSums_X1_windowSum rfl rfl rfl (by decide +kernel) ⟨Nat.le_of_ble_eq_true rfl, Nat.le_of_ble_eq_true rfl⟩) hK (va_recv hK.1 hP (ci := 1) (q0 := 0) rfl rfl) (hP) rfl hl.1 rfl (Nat.le_of_ble_eq_true rfl) dX1_fillWindowSums_24 ⟨Nat.le_of_ble_eq_true rfl, Nat.le_of_ble_eq_true rfl⟩ ?_
        refine st_I (k := i) (n := 40) (f := flF w (fun o => wnF f o t) i) (x := wnF f i t) hx hb hK.1 hP hD hS 2 rfl (by omega) (by omega) dX1_fillWindowSums_27 (fun H locs hP hD hS => ?_)
        have hP : va_P (gD g) vwCl [(h, .inr (1, [.ref (a), .ref (b), .int (nI n)])), (a, .inl (gI g, 40, .inl (f))), (b, .inl (gI g, 40, .inl (upd (flF w (fun o => wnF f o t) i) (i) (wnF f i t))))] H := hP
        have hD : va_D A [(h, .inr (1, [.ref (a), .ref (b), .int (nI n)])), (a, .inl (gI g, 40, .inl (f))), (b, .inl (gI g, 40, .inl (upd (flF w (fun o => wnF f o t) i) (i) (wnF f i t))))] := hD
        have hP : va_P (gD g) vwCl [(h, .inr (1, [.ref (a), .ref (b), .int (nI n)])), (a, .inl (gI g, 40, .inl (f))), (b, .inl (gI g, 40, .inl (flF w (fun o => wnF f o t) (i + 1))))] H := by rw [show flF w (fun o => wnF f o t) (i + 1) = upd (flF w (fun o => wnF f o t) i) i (wnF f i t) from flF_up _ _ _]; exact hP
        have hD : va_D A [(h, .inr (1, [.ref (a), .ref (b), .int (nI n)])), (a, .inl (gI g, 40, .inl (f))), (b, .inl (gI g, 40, .inl (flF w (fun o => wnF f o t) (i + 1))))] := by rw [show flF w (fun o => wnF f o t) (i + 1) = upd (flF w (fun o => wnF f o t) i) i (wnF f i t) from flF_up _ _ _]; exact hD
        refine lv_iinc (v := nI (i + 1)) (lv' := [(3, .int (nI (i + 1))), (2, .int (nI (n - t + 1))), (0, .ref (h)), (1, .int (nI t))]) hx hb dX1_fillWindowSums_28 hl (k := 0) rfl (nI_1 _) (by decide) rfl (fun ls hl => ?_)
        refine lv_goto (tgt := 11) hx hb dX1_fillWindowSums_31 (by decide) ?_
        exact ih1 (i + 1) _ _ _ (by omega) (by omega) hP hD hS (lv_sub hl [0, 1, 2, 3] rfl)
  exact L11 ((n - t + 1) + 1) (0) _ _ _ (by omega) (by omega) (by rw [flF_0]; exact hP) (by rw [flF_0]; exact hD) hS (lv_sub hl [0, 1, 2, 3] rfl)

set_option maxHeartbeats 4000000 in
set_option maxRecDepth 100000 in
/-- fillWindowSums(t), fewer signs -/
theorem c_X1_fillWindowSums0 (l : Launch) (g : gT) (h a b : Nat) (f w : Nat → Int32) (n : Nat) (hn : n ≤ 40) (t : Nat) (ht : t ≤ 40) (ht2 : n < t) : wM g l yX1_fillWindowSums wsX1_fillWindowSums { frames := 1, cells := 0, slots := 0, locals := 24 } [.ref (h), .int (nI t)] (ltW g h a b f w n) (some (.int (nI n - nI t + 1))) (ltW g h a b f w n) := by
  refine wr_ofI (cc := cX1_fillWindowSums) (maxL := 4) (by decide) rfl (Nat.le_of_ble_eq_true rfl) ?_
  intro p e s m args below meth c H0 ls A Q hx hb hml hts hown hK hP hD hS hl hret
  have hl : lv_has ls 4 [(0, .ref (h)), (1, .int (nI t))] := hl
  have S : CallFix p m c cX1_fillWindowSums 4 s args wsX1_fillWindowSums RX1 := ⟨hx, hb, hml, hown, hts⟩
  have iX1 : ∀ w ∈ u_ws RX1 TX1 3, w ∈ wsX1_fillWindowSums := by decide +kernel
  have f18 := hts (.fieldLink RX1 18 "LetterSeals$Letter" "count" "I") (by decide +kernel)
  obtain ⟨H, eH⟩ : ∃ H : Heap, H = H0 := ⟨_, rfl⟩
  rw [← eH] at hP ⊢
  have hS : va_S A H0 H [] := by rw [eH]; exact hS
  have hP : va_P (gD g) vwCl [(h, .inr (1, [.ref (a), .ref (b), .int (nI n)])), (a, .inl (gI g, 40, .inl (f))), (b, .inl (gI g, 40, .inl (w)))] H := hP
  have hD : va_D A [(h, .inr (1, [.ref (a), .ref (b), .int (nI n)])), (a, .inl (gI g, 40, .inl (f))), (b, .inl (gI g, 40, .inl (w)))] := hD
  refine lv_aload_n hx hb dX1_fillWindowSums_0 rfl (lv_at hl 0 rfl) ?_
  refine va_get (D := gD g) (ci := 1) (v := .int (nI n)) (C := RX1) (T := TX1) (N := 3) hx hb hts iX1 hown hK.1 hP 0 rfl rfl 2 (by decide) f18 (fun _ h9 => h9) rfl dX1_fillWindowSums_1 ?_
  refine lv_iload_n hx hb dX1_fillWindowSums_4 rfl (lv_at hl 1 rfl) ?_
  refine lv_isub hx hb dX1_fillWindowSums_5 ?_
  refine lv_iconst (v := 1) hx hb dX1_fillWindowSums_6 (by decide +kernel) ?_
  refine lv_iadd hx hb dX1_fillWindowSums_7 ?_
  refine lv_toI (z := nI n - nI t + 1) (rfl) ?_
  refine lv_istore_n (lv' := [(2, .int (nI n - nI t + 1)), (0, .ref (h)), (1, .int (nI t))]) hx hb dX1_fillWindowSums_8 rfl hl (by decide) rfl (fun ls hl => ?_)
  refine lv_iconst (v := nI (0)) hx hb dX1_fillWindowSums_9 (by decide +kernel) ?_
  refine lv_istore_n (lv' := [(3, .int (nI (0))), (2, .int (nI n - nI t + 1)), (0, .ref (h)), (1, .int (nI t))]) hx hb dX1_fillWindowSums_10 rfl hl (by decide) rfl (fun ls hl => ?_)
  refine lv_iload_n hx hb dX1_fillWindowSums_11 rfl (lv_at hl 0 rfl) ?_
  refine lv_iload_n hx hb dX1_fillWindowSums_12 rfl (lv_at hl 1 rfl) ?_
  refine lv_icmp_ge (tgt := 34) hx hb dX1_fillWindowSums_13 (by decide) (fun c13 => ?_) (fun c13 => ?_)
  · refine lv_iload_n hx hb dX1_fillWindowSums_34 rfl (lv_at hl 1 rfl) ?_
    exact hret _ _ _ _ hP hS dX1_fillWindowSums_35
  · exact absurd (neg_wb n (by omega) t (by omega) ht2) c13

set_option maxHeartbeats 4000000 in
set_option maxRecDepth 100000 in
/-- sameSumPairs(t), t signs or more -/
theorem c_X1_sameSumPairs (l : Launch) (g : gT) (h a b : Nat) (f w : Nat → Int32) (n : Nat) (hn : n ≤ 40) (t : Nat) (ht : 1 ≤ t) (ht2 : t ≤ n) : wM g l yX1_sameSumPairs wsX1_sameSumPairs { frames := 2, cells := 0, slots := 0, locals := 47 } [.ref (h), .int (nI t)] (ltW g h a b f w n) (some (.int (prC (pcP f t false) (n - t + 1) (n - t + 1)))) (ltW g h a b f (flF w (fun o => wnF f o t) (n - t + 1)) n) := by
  refine wr_ofI (cc := cX1_sameSumPairs) (maxL := 6) (by decide) rfl (Nat.le_of_ble_eq_true rfl) ?_
  intro p e s m args below meth c H0 ls A Q hx hb hml hts hown hK hP hD hS hl hret
  have hl : lv_has ls 6 [(0, .ref (h)), (1, .int (nI t))] := hl
  have S : CallFix p m c cX1_sameSumPairs 6 s args wsX1_sameSumPairs RX1 := ⟨hx, hb, hml, hown, hts⟩
  have iX1 : ∀ w ∈ u_ws RX1 TX1 3, w ∈ wsX1_sameSumPairs := by decide +kernel
  have f15 := hts (.fieldLink RX1 15 "LetterSeals$Letter" "windowSums" "[I") (by decide +kernel)
  obtain ⟨H, eH⟩ : ∃ H : Heap, H = H0 := ⟨_, rfl⟩
  rw [← eH] at hP ⊢
  have hS : va_S A H0 H [] := by rw [eH]; exact hS
  have hP : va_P (gD g) vwCl [(h, .inr (1, [.ref (a), .ref (b), .int (nI n)])), (a, .inl (gI g, 40, .inl (f))), (b, .inl (gI g, 40, .inl (w)))] H := hP
  have hD : va_D A [(h, .inr (1, [.ref (a), .ref (b), .int (nI n)])), (a, .inl (gI g, 40, .inl (f))), (b, .inl (gI g, 40, .inl (w)))] := hD
  refine lv_aload_n hx hb dX1_sameSumPairs_0 rfl (lv_at hl 0 rfl) ?_
  refine lv_iload_n hx hb dX1_sameSumPairs_1 rfl (lv_at hl 1 rfl) ?_
  refine w_V (As := [.int (nI t)]) (rest := []) S (c_X1_fillWindowSums l g h a b f w n hn t ht ht2) (cwV 1 hts gX1_sameSumPairs_X1_fillWindowSums rfl rfl rfl (by decide +kernel) ⟨Nat.le_of_ble_eq_true rfl, Nat.le_of_ble_eq_true rfl⟩) hK (va_recv hK.1 hP (ci := 1) (q0 := 0) rfl rfl) hP (hD.weaken (fun _ _ _ _ => trivial)) hS (wA_D hD [0, 1, 2] rfl) rfl hl.1 rfl (Nat.le_of_ble_eq_true rfl) dX1_sameSumPairs_2 ⟨Nat.le_of_ble_eq_true rfl, Nat.le_of_ble_eq_true rfl⟩ (fun H locs hP1 hz1 hk1 hS => ?_)
  have hP : va_P (gD g) vwCl [(h, .inr (1, [.ref (a), .ref (b), .int (nI n)])), (a, .inl (gI g, 40, .inl (f))), (b, .inl (gI g, 40, .inl (flF w (fun o => wnF f o t) (n - t + 1))))] H := hP1
  have hD : va_D A [(h, .inr (1, [.ref (a), .ref (b), .int (nI n)])), (a, .inl (gI g, 40, .inl (f))), (b, .inl (gI g, 40, .inl (flF w (fun o => wnF f o t) (n - t + 1))))] := D_same hD rfl
  refine lv_istore_n (lv' := [(2, .int (nI (n - t + 1))), (0, .ref (h)), (1, .int (nI t))]) hx hb dX1_sameSumPairs_5 rfl hl (by decide) rfl (fun ls hl => ?_)
  refine lv_iconst (v := 0) hx hb dX1_sameSumPairs_6 (by decide +kernel) ?_
  refine lv_istore_n (lv' := [(3, .int (0)), (2, .int (nI (n - t + 1))), (0, .ref (h)), (1, .int (nI t))]) hx hb dX1_sameSumPairs_7 rfl hl (by decide) rfl (fun ls hl => ?_)
  refine lv_iconst (v := nI (0)) hx hb dX1_sameSumPairs_8 (by decide +kernel) ?_
  refine lv_istore (lv' := [(4, .int (nI (0))), (3, .int (0)), (2, .int (nI (n - t + 1))), (0, .ref (h)), (1, .int (nI t))]) hx hb dX1_sameSumPairs_9 hl (by decide) rfl (fun ls hl => ?_)
  have L11 : ∀ (k1 i : Nat) (ls : Array Slot), (n - t + 1) - i < k1 → i ≤ (n - t + 1) → lv_has ls 6 [(4, .int (nI i)), (3, .int (prC (pcP f t false) (n - t + 1) i)), (2, .int (nI (n - t + 1))), (0, .ref (h)), (1, .int (nI t))] → W p l e { frames := 2, cells := 0, slots := 0, locals := 47 } s m args below meth c H locs 0 0 Q (F0 m 11 ls []) := by
    intro k1
    induction k1 with
    | zero => intro i ls hFu; exact absurd hFu (Nat.not_lt_zero _)
    | succ k1 ih1 =>
      intro i ls hFu hLe hl
      refine lv_iload hx hb dX1_sameSumPairs_11 (lv_at hl 0 rfl) ?_
      refine lv_iload_n hx hb dX1_sameSumPairs_13 rfl (lv_at hl 2 rfl) ?_
      refine br_ge (a := i) (b := n - t + 1) (tgt := 61) hx hb (by omega) (by omega) dX1_sameSumPairs_14 (by decide) (fun c14 => ?_) (fun c14 => ?_)
      · have e_i : i = (n - t + 1) := by omega
        rw [e_i] at hl
        refine lv_iload_n hx hb dX1_sameSumPairs_61 rfl (lv_at hl 1 rfl) ?_
        exact hret _ _ _ _ hP hS dX1_sameSumPairs_62
      · refine lv_iload hx hb dX1_sameSumPairs_17 (lv_at hl 0 rfl) ?_
        refine lv_iconst (v := nI (1)) hx hb dX1_sameSumPairs_19 (by decide +kernel) ?_
        refine lv_iadd hx hb dX1_sameSumPairs_20 ?_
        refine lv_toI (z := nI (i + 1)) (nI_add _ _) ?_
        refine lv_istore (lv' := [(5, .int (nI (i + 1))), (4, .int (nI i)), (3, .int (prC (pcP f t false) (n - t + 1) i)), (2, .int (nI (n - t + 1))), (0, .ref (h)), (1, .int (nI t))]) hx hb dX1_sameSumPairs_21 hl (by decide) rfl (fun ls hl => ?_)
        have L23 : ∀ (k2 j : Nat) (ls : Array Slot), ((n - t + 1) - (i + 1)) - j < k2 → j ≤ ((n - t + 1) - (i + 1)) → lv_has ls 6 [(5, .int (nI (i + 1 + j))), (3, .int (acF (fun u => (pcP f t false) i (i + 1 + u)) (prC (pcP f t false) (n - t + 1) i) j)), (4, .int (nI i)), (2, .int (nI (n - t + 1))), (0, .ref (h)), (1, .int (nI t))] → W p l e { frames := 2, cells := 0, slots := 0, locals := 47 } s m args below meth c H locs 0 0 Q (F0 m 23 ls []) := by
          intro k2
          induction k2 with
          | zero => intro j ls hFu; exact absurd hFu (Nat.not_lt_zero _)
          | succ k2 ih2 =>
            intro j ls hFu hLe hl
            refine lv_iload hx hb dX1_sameSumPairs_23 (lv_at hl 0 rfl) ?_
            refine lv_iload_n hx hb dX1_sameSumPairs_25 rfl (lv_at hl 3 rfl) ?_
            refine br_ge (a := i + 1 + j) (b := n - t + 1) (tgt := 55) hx hb (by omega) (by omega) dX1_sameSumPairs_26 (by decide) (fun c26 => ?_) (fun c26 => ?_)
            · have e_j : j = ((n - t + 1) - (i + 1)) := by omega
              rw [e_j] at hl
              refine lv_iinc (v := nI (i + 1)) (lv' := [(4, .int (nI (i + 1))), (5, .int (nI (i + 1 + ((n - t + 1) - (i + 1))))), (3, .int (acF (fun u => (pcP f t false) i (i + 1 + u)) (prC (pcP f t false) (n - t + 1) i) ((n - t + 1) - (i + 1)))), (2, .int (nI (n - t + 1))), (0, .ref (h)), (1, .int (nI t))]) hx hb dX1_sameSumPairs_55 hl (k := 2) rfl (nI_1 _) (by decide) rfl (fun ls hl => ?_)
              refine lv_goto (tgt := 11) hx hb dX1_sameSumPairs_58 (by decide) ?_
              exact ih1 (i + 1) _ (by omega) (by omega) (lv_sub hl [0, 2, 3, 4, 5] rfl)
            · refine lv_aload_n hx hb dX1_sameSumPairs_29 rfl (lv_at hl 4 rfl) ?_
              refine va_get (D := gD g) (ci := 1) (v := .ref (b)) (C := RX1) (T := TX1) (N := 3) hx hb hts iX1 hown hK.1 hP 0 rfl rfl 1 (by decide) f15 (fun _ h9 => h9) rfl dX1_sameSumPairs_30 ?_
              refine lv_iload hx hb dX1_sameSumPairs_33 (lv_at hl 2 rfl) ?_
              refine ld_I (k := i) (n := 40) (f := flF w (fun o => wnF f o t) (n - t + 1)) hx hb hK.1 hP 2 rfl (by omega) (by omega) dX1_sameSumPairs_35 ?_
              refine lv_toI (z := wnF f i t) (flF_in (by omega)) ?_
              refine lv_aload_n hx hb dX1_sameSumPairs_36 rfl (lv_at hl 4 rfl) ?_
              refine va_get (D := gD g) (ci := 1) (v := .ref (b)) (C := RX1) (T := TX1) (N := 3) hx hb hts iX1 hown hK.1 hP 0 rfl rfl 1 (by decide) f15 (fun _ h9 => h9) rfl dX1_sameSumPairs_37 ?_
              refine lv_iload hx hb dX1_sameSumPairs_40 (lv_at hl 0 rfl) ?_
              refine ld_I (k := i + 1 + j) (n := 40) (f := flF w (fun o => wnF f o t) (n - t + 1)) hx hb hK.1 hP 2 rfl (by omega) (by omega) dX1_sameSumPairs_42 ?_
              refine lv_toI (z := wnF f (i + 1 + j) t) (flF_in (by omega)) ?_
              refine lv_icmp_ne (tgt := 49) hx hb dX1_sameSumPairs_43 (by decide) (fun c43 => ?_) (fun c43 => ?_)
              · have hl : lv_has ls 6 [(5, .int (nI (i + 1 + j))), (3, .int (acF (fun u => (pcP f t false) i (i + 1 + u)) (prC (pcP f t false) (n - t + 1) i) (j + 1))), (4, .int (nI i)), (2, .int (nI (n - t + 1))), (0, .ref (h)), (1, .int (nI t))] := by rw [acF, if_neg (pcP_no (by first | exact Or.inl c43 | exact Or.inr ⟨rfl, c56⟩))]; exact hl
                refine lv_iinc (v := nI (i + 1 + j + 1)) (lv' := [(5, .int (nI (i + 1 + j + 1))), (3, .int (acF (fun u => (pcP f t false) i (i + 1 + u)) (prC (pcP f t false) (n - t + 1) i) (j + 1))), (4, .int (nI i)), (2, .int (nI (n - t + 1))), (0, .ref (h)), (1, .int (nI t))]) hx hb dX1_sameSumPairs_49 hl (k := 0) rfl (nI_1 _) (by decide) rfl (fun ls hl => ?_)
                refine lv_goto (tgt := 23) hx hb dX1_sameSumPairs_52 (by decide) ?_
                exact ih2 (j + 1) _ (by omega) (by omega) (lv_sub hl [0, 1, 2, 3, 4, 5] rfl)
              · refine lv_iinc (v := acF (fun u => (pcP f t false) i (i + 1 + u)) (prC (pcP f t false) (n - t + 1) i) (j + 1)) (lv' := [(3, .int (acF (fun u => (pcP f t false) i (i + 1 + u)) (prC (pcP f t false) (n - t + 1) i) (j + 1))), (5, .int (nI (i + 1 + j))), (4, .int (nI i)), (2, .int (nI (n - t + 1))), (0, .ref (h)), (1, .int (nI t))]) hx hb dX1_sameSumPairs_46 hl (k := 1) rfl (by rw [acF, if_pos (pcP_yes c43 (by first | exact Or.inl rfl | exact Or.inr c56))]; rfl) (by decide) rfl (fun ls hl => ?_)
                refine lv_iinc (v := nI (i + 1 + j + 1)) (lv' := [(5, .int (nI (i + 1 + j + 1))), (3, .int (acF (fun u => (pcP f t false) i (i + 1 + u)) (prC (pcP f t false) (n - t + 1) i) (j + 1))), (4, .int (nI i)), (2, .int (nI (n - t + 1))), (0, .ref (h)), (1, .int (nI t))]) hx hb dX1_sameSumPairs_49 hl (k := 1) rfl (nI_1 _) (by decide) rfl (fun ls hl => ?_)
                refine lv_goto (tgt := 23) hx hb dX1_sameSumPairs_52 (by decide) ?_
                exact ih2 (j + 1) _ (by omega) (by omega) (lv_sub hl [0, 1, 2, 3, 4, 5] rfl)
        exact L23 (((n - t + 1) - (i + 1)) + 1) (0) _ (by omega) (by omega) (lv_sub hl [0, 2, 1, 3, 4, 5] rfl)
  exact L11 ((n - t + 1) + 1) (0) _ (by omega) (by omega) (lv_sub hl [0, 1, 2, 3, 4] rfl)

set_option maxHeartbeats 4000000 in
set_option maxRecDepth 100000 in
/-- sameSumPairs(t), fewer signs -/
theorem c_X1_sameSumPairs0 (l : Launch) (g : gT) (h a b : Nat) (f w : Nat → Int32) (n : Nat) (hn : n ≤ 40) (t : Nat) (ht : t ≤ 40) (ht2 : n < t) : wM g l yX1_sameSumPairs wsX1_sameSumPairs { frames := 2, cells := 0, slots := 0, locals := 47 } [.ref (h), .int (nI t)] (ltW g h a b f w n) (some (.int (0))) (ltW g h a b f w n) := by
  refine wr_ofI (cc := cX1_sameSumPairs) (maxL := 6) (by decide) rfl (Nat.le_of_ble_eq_true rfl) ?_
  intro p e s m args below meth c H0 ls A Q hx hb hml hts hown hK hP hD hS hl hret
  have hl : lv_has ls 6 [(0, .ref (h)), (1, .int (nI t))] := hl
  have S : CallFix p m c cX1_sameSumPairs 6 s args wsX1_sameSumPairs RX1 := ⟨hx, hb, hml, hown, hts⟩
  obtain ⟨H, eH⟩ : ∃ H : Heap, H = H0 := ⟨_, rfl⟩
  rw [← eH] at hP ⊢
  have hS : va_S A H0 H [] := by rw [eH]; exact hS
  have hP : va_P (gD g) vwCl [(h, .inr (1, [.ref (a), .ref (b), .int (nI n)])), (a, .inl (gI g, 40, .inl (f))), (b, .inl (gI g, 40, .inl (w)))] H := hP
  have hD : va_D A [(h, .inr (1, [.ref (a), .ref (b), .int (nI n)])), (a, .inl (gI g, 40, .inl (f))), (b, .inl (gI g, 40, .inl (w)))] := hD
  refine lv_aload_n hx hb dX1_sameSumPairs_0 rfl (lv_at hl 0 rfl) ?_
  refine lv_iload_n hx hb dX1_sameSumPairs_1 rfl (lv_at hl 1 rfl) ?_
  refine w_V (As := [.int (nI t)]) (rest := []) S (c_X1_fillWindowSums0 l g h a b f w n hn t ht ht2) (cwV 1 hts gX1_sameSumPairs_X1_fillWindowSums rfl rfl rfl (by decide +kernel) ⟨Nat.le_of_ble_eq_true rfl, Nat.le_of_ble_eq_true rfl⟩) hK (va_recv hK.1 hP (ci := 1) (q0 := 0) rfl rfl) hP (hD.weaken (fun _ _ _ _ => trivial)) hS (wA_D hD [0, 1, 2] rfl) rfl hl.1 rfl (Nat.le_of_ble_eq_true rfl) dX1_sameSumPairs_2 ⟨Nat.le_of_ble_eq_true rfl, Nat.le_of_ble_eq_true rfl⟩ (fun H locs hP1 hz1 hk1 hS => ?_)
  have hP : va_P (gD g) vwCl [(h, .inr (1, [.ref (a), .ref (b), .int (nI n)])), (a, .inl (gI g, 40, .inl (f))), (b, .inl (gI g, 40, .inl (w)))] H := hP1
  refine lv_istore_n (lv' := [(2, .int (nI n - nI t + 1)), (0, .ref (h)), (1, .int (nI t))]) hx hb dX1_sameSumPairs_5 rfl hl (by decide) rfl (fun ls hl => ?_)
  refine lv_iconst (v := 0) hx hb dX1_sameSumPairs_6 (by decide +kernel) ?_
  refine lv_istore_n (lv' := [(3, .int (0)), (2, .int (nI n - nI t + 1)), (0, .ref (h)), (1, .int (nI t))]) hx hb dX1_sameSumPairs_7 rfl hl (by decide) rfl (fun ls hl => ?_)
  refine lv_iconst (v := nI (0)) hx hb dX1_sameSumPairs_8 (by decide +kernel) ?_
  refine lv_istore (lv' := [(4, .int (nI (0))), (3, .int (0)), (2, .int (nI n - nI t + 1)), (0, .ref (h)), (1, .int (nI t))]) hx hb dX1_sameSumPairs_9 hl (by decide) rfl (fun ls hl => ?_)
  refine lv_iload hx hb dX1_sameSumPairs_11 (lv_at hl 0 rfl) ?_
  refine lv_iload_n hx hb dX1_sameSumPairs_13 rfl (lv_at hl 2 rfl) ?_
  refine lv_icmp_ge (tgt := 61) hx hb dX1_sameSumPairs_14 (by decide) (fun c14 => ?_) (fun c14 => ?_)
  · refine lv_iload_n hx hb dX1_sameSumPairs_61 rfl (lv_at hl 1 rfl) ?_
    exact hret _ _ _ _ hP hS dX1_sameSumPairs_62
  · exact absurd (neg_wb n (by omega) t (by omega) ht2) c14

set_option maxHeartbeats 4000000 in
set_option maxRecDepth 100000 in
/-- falseAlarmPairs(t), t signs or more -/
theorem c_X1_falseAlarmPairs (l : Launch) (g : gT) (h a b : Nat) (f w : Nat → Int32) (n : Nat) (hn : n ≤ 40) (t : Nat) (ht : 1 ≤ t) (ht2 : t ≤ n) : wM g l yX1_falseAlarmPairs wsX1_falseAlarmPairs { frames := 2, cells := 0, slots := 0, locals := 47 } [.ref (h), .int (nI t)] (ltW g h a b f w n) (some (.int (prC (pcP f t true) (n - t + 1) (n - t + 1)))) (ltW g h a b f (flF w (fun o => wnF f o t) (n - t + 1)) n) := by
  refine wr_ofI (cc := cX1_falseAlarmPairs) (maxL := 6) (by decide) rfl (Nat.le_of_ble_eq_true rfl) ?_
  intro p e s m args below meth c H0 ls A Q hx hb hml hts hown hK hP hD hS hl hret
  have hl : lv_has ls 6 [(0, .ref (h)), (1, .int (nI t))] := hl
  have S : CallFix p m c cX1_falseAlarmPairs 6 s args wsX1_falseAlarmPairs RX1 := ⟨hx, hb, hml, hown, hts⟩
  have iX1 : ∀ w ∈ u_ws RX1 TX1 3, w ∈ wsX1_falseAlarmPairs := by decide +kernel
  have f15 := hts (.fieldLink RX1 15 "LetterSeals$Letter" "windowSums" "[I") (by decide +kernel)
  obtain ⟨H, eH⟩ : ∃ H : Heap, H = H0 := ⟨_, rfl⟩
  rw [← eH] at hP ⊢
  have hS : va_S A H0 H [] := by rw [eH]; exact hS
  have hP : va_P (gD g) vwCl [(h, .inr (1, [.ref (a), .ref (b), .int (nI n)])), (a, .inl (gI g, 40, .inl (f))), (b, .inl (gI g, 40, .inl (w)))] H := hP
  have hD : va_D A [(h, .inr (1, [.ref (a), .ref (b), .int (nI n)])), (a, .inl (gI g, 40, .inl (f))), (b, .inl (gI g, 40, .inl (w)))] := hD
  refine lv_aload_n hx hb dX1_falseAlarmPairs_0 rfl (lv_at hl 0 rfl) ?_
  refine lv_iload_n hx hb dX1_falseAlarmPairs_1 rfl (lv_at hl 1 rfl) ?_
  refine w_V (As := [.int (nI t)]) (rest := []) S (c_X1_fillWindowSums l g h a b f w n hn t ht ht2) (cwV 1 hts gX1_falseAlarmPairs_X1_fillWindowSums rfl rfl rfl (by decide +kernel) ⟨Nat.le_of_ble_eq_true rfl, Nat.le_of_ble_eq_true rfl⟩) hK (va_recv hK.1 hP (ci := 1) (q0 := 0) rfl rfl) hP (hD.weaken (fun _ _ _ _ => trivial)) hS (wA_D hD [0, 1, 2] rfl) rfl hl.1 rfl (Nat.le_of_ble_eq_true rfl) dX1_falseAlarmPairs_2 ⟨Nat.le_of_ble_eq_true rfl, Nat.le_of_ble_eq_true rfl⟩ (fun H locs hP1 hz1 hk1 hS => ?_)
  have hP : va_P (gD g) vwCl [(h, .inr (1, [.ref (a), .ref (b), .int (nI n)])), (a, .inl (gI g, 40, .inl (f))), (b, .inl (gI g, 40, .inl (flF w (fun o => wnF f o t) (n - t + 1))))] H := hP1
  have hD : va_D A [(h, .inr (1, [.ref (a), .ref (b), .int (nI n)])), (a, .inl (gI g, 40, .inl (f))), (b, .inl (gI g, 40, .inl (flF w (fun o => wnF f o t) (n - t + 1))))] := D_same hD rfl
  refine lv_istore_n (lv' := [(2, .int (nI (n - t + 1))), (0, .ref (h)), (1, .int (nI t))]) hx hb dX1_falseAlarmPairs_5 rfl hl (by decide) rfl (fun ls hl => ?_)
  refine lv_iconst (v := 0) hx hb dX1_falseAlarmPairs_6 (by decide +kernel) ?_
  refine lv_istore_n (lv' := [(3, .int (0)), (2, .int (nI (n - t + 1))), (0, .ref (h)), (1, .int (nI t))]) hx hb dX1_falseAlarmPairs_7 rfl hl (by decide) rfl (fun ls hl => ?_)
  refine lv_iconst (v := nI (0)) hx hb dX1_falseAlarmPairs_8 (by decide +kernel) ?_
  refine lv_istore (lv' := [(4, .int (nI (0))), (3, .int (0)), (2, .int (nI (n - t + 1))), (0, .ref (h)), (1, .int (nI t))]) hx hb dX1_falseAlarmPairs_9 hl (by decide) rfl (fun ls hl => ?_)
  have L11 : ∀ (k1 i : Nat) (ls : Array Slot), (n - t + 1) - i < k1 → i ≤ (n - t + 1) → lv_has ls 6 [(4, .int (nI i)), (3, .int (prC (pcP f t true) (n - t + 1) i)), (2, .int (nI (n - t + 1))), (0, .ref (h)), (1, .int (nI t))] → W p l e { frames := 2, cells := 0, slots := 0, locals := 47 } s m args below meth c H locs 0 0 Q (F0 m 11 ls []) := by
    intro k1
    induction k1 with
    | zero => intro i ls hFu; exact absurd hFu (Nat.not_lt_zero _)
    | succ k1 ih1 =>
      intro i ls hFu hLe hl
      refine lv_iload hx hb dX1_falseAlarmPairs_11 (lv_at hl 0 rfl) ?_
      refine lv_iload_n hx hb dX1_falseAlarmPairs_13 rfl (lv_at hl 2 rfl) ?_
      refine br_ge (a := i) (b := n - t + 1) (tgt := 74) hx hb (by omega) (by omega) dX1_falseAlarmPairs_14 (by decide) (fun c14 => ?_) (fun c14 => ?_)
      · have e_i : i = (n - t + 1) := by omega
        rw [e_i] at hl
        refine lv_iload_n hx hb dX1_falseAlarmPairs_74 rfl (lv_at hl 1 rfl) ?_
        exact hret _ _ _ _ hP hS dX1_falseAlarmPairs_75
      · refine lv_iload hx hb dX1_falseAlarmPairs_17 (lv_at hl 0 rfl) ?_
        refine lv_iconst (v := nI (1)) hx hb dX1_falseAlarmPairs_19 (by decide +kernel) ?_
        refine lv_iadd hx hb dX1_falseAlarmPairs_20 ?_
        refine lv_toI (z := nI (i + 1)) (nI_add _ _) ?_
        refine lv_istore (lv' := [(5, .int (nI (i + 1))), (4, .int (nI i)), (3, .int (prC (pcP f t true) (n - t + 1) i)), (2, .int (nI (n - t + 1))), (0, .ref (h)), (1, .int (nI t))]) hx hb dX1_falseAlarmPairs_21 hl (by decide) rfl (fun ls hl => ?_)
        have L23 : ∀ (k2 j : Nat) (ls : Array Slot), ((n - t + 1) - (i + 1)) - j < k2 → j ≤ ((n - t + 1) - (i + 1)) → lv_has ls 6 [(5, .int (nI (i + 1 + j))), (3, .int (acF (fun u => (pcP f t true) i (i + 1 + u)) (prC (pcP f t true) (n - t + 1) i) j)), (4, .int (nI i)), (2, .int (nI (n - t + 1))), (0, .ref (h)), (1, .int (nI t))] → W p l e { frames := 2, cells := 0, slots := 0, locals := 47 } s m args below meth c H locs 0 0 Q (F0 m 23 ls []) := by
          intro k2
          induction k2 with
          | zero => intro j ls hFu; exact absurd hFu (Nat.not_lt_zero _)
          | succ k2 ih2 =>
            intro j ls hFu hLe hl
            refine lv_iload hx hb dX1_falseAlarmPairs_23 (lv_at hl 0 rfl) ?_
            refine lv_iload_n hx hb dX1_falseAlarmPairs_25 rfl (lv_at hl 3 rfl) ?_
            refine br_ge (a := i + 1 + j) (b := n - t + 1) (tgt := 68) hx hb (by omega) (by omega) dX1_falseAlarmPairs_26 (by decide) (fun c26 => ?_) (fun c26 => ?_)
            · have e_j : j = ((n - t + 1) - (i + 1)) := by omega
              rw [e_j] at hl
              refine lv_iinc (v := nI (i + 1)) (lv' := [(4, .int (nI (i + 1))), (5, .int (nI (i + 1 + ((n - t + 1) - (i + 1))))), (3, .int (acF (fun u => (pcP f t true) i (i + 1 + u)) (prC (pcP f t true) (n - t + 1) i) ((n - t + 1) - (i + 1)))), (2, .int (nI (n - t + 1))), (0, .ref (h)), (1, .int (nI t))]) hx hb dX1_falseAlarmPairs_68 hl (k := 2) rfl (nI_1 _) (by decide) rfl (fun ls hl => ?_)
              refine lv_goto (tgt := 11) hx hb dX1_falseAlarmPairs_71 (by decide) ?_
              exact ih1 (i + 1) _ (by omega) (by omega) (lv_sub hl [0, 2, 3, 4, 5] rfl)
            · refine lv_aload_n hx hb dX1_falseAlarmPairs_29 rfl (lv_at hl 4 rfl) ?_
              refine va_get (D := gD g) (ci := 1) (v := .ref (b)) (C := RX1) (T := TX1) (N := 3) hx hb hts iX1 hown hK.1 hP 0 rfl rfl 1 (by decide) f15 (fun _ h9 => h9) rfl dX1_falseAlarmPairs_30 ?_
              refine lv_iload hx hb dX1_falseAlarmPairs_33 (lv_at hl 2 rfl) ?_
              refine ld_I (k := i) (n := 40) (f := flF w (fun o => wnF f o t) (n - t + 1)) hx hb hK.1 hP 2 rfl (by omega) (by omega) dX1_falseAlarmPairs_35 ?_
              refine lv_toI (z := wnF f i t) (flF_in (by omega)) ?_
              refine lv_aload_n hx hb dX1_falseAlarmPairs_36 rfl (lv_at hl 4 rfl) ?_
              refine va_get (D := gD g) (ci := 1) (v := .ref (b)) (C := RX1) (T := TX1) (N := 3) hx hb hts iX1 hown hK.1 hP 0 rfl rfl 1 (by decide) f15 (fun _ h9 => h9) rfl dX1_falseAlarmPairs_37 ?_
              refine lv_iload hx hb dX1_falseAlarmPairs_40 (lv_at hl 0 rfl) ?_
              refine ld_I (k := i + 1 + j) (n := 40) (f := flF w (fun o => wnF f o t) (n - t + 1)) hx hb hK.1 hP 2 rfl (by omega) (by omega) dX1_falseAlarmPairs_42 ?_
              refine lv_toI (z := wnF f (i + 1 + j) t) (flF_in (by omega)) ?_
              refine lv_icmp_ne (tgt := 62) hx hb dX1_falseAlarmPairs_43 (by decide) (fun c43 => ?_) (fun c43 => ?_)
              · have hl : lv_has ls 6 [(5, .int (nI (i + 1 + j))), (3, .int (acF (fun u => (pcP f t true) i (i + 1 + u)) (prC (pcP f t true) (n - t + 1) i) (j + 1))), (4, .int (nI i)), (2, .int (nI (n - t + 1))), (0, .ref (h)), (1, .int (nI t))] := by rw [acF, if_neg (pcP_no (by first | exact Or.inl c43 | exact Or.inr ⟨rfl, c56⟩))]; exact hl
                refine lv_iinc (v := nI (i + 1 + j + 1)) (lv' := [(5, .int (nI (i + 1 + j + 1))), (3, .int (acF (fun u => (pcP f t true) i (i + 1 + u)) (prC (pcP f t true) (n - t + 1) i) (j + 1))), (4, .int (nI i)), (2, .int (nI (n - t + 1))), (0, .ref (h)), (1, .int (nI t))]) hx hb dX1_falseAlarmPairs_62 hl (k := 0) rfl (nI_1 _) (by decide) rfl (fun ls hl => ?_)
                refine lv_goto (tgt := 23) hx hb dX1_falseAlarmPairs_65 (by decide) ?_
                exact ih2 (j + 1) _ (by omega) (by omega) (lv_sub hl [0, 1, 2, 3, 4, 5] rfl)
              · refine lv_aload_n hx hb dX1_falseAlarmPairs_46 rfl (lv_at hl 4 rfl) ?_
                refine lv_iload hx hb dX1_falseAlarmPairs_47 (lv_at hl 2 rfl) ?_
                refine lv_aload_n hx hb dX1_falseAlarmPairs_49 rfl (lv_at hl 4 rfl) ?_
                refine lv_iload hx hb dX1_falseAlarmPairs_50 (lv_at hl 0 rfl) ?_
                refine lv_iload_n hx hb dX1_falseAlarmPairs_52 rfl (lv_at hl 5 rfl) ?_
                refine p_V (As := [.int (nI i), .ref (h), .int (nI (i + 1 + j)), .int (nI t)]) (rest := []) S (c_X1_sameRun l g h a b h a b f _ f _ n n hn hn i (i + 1 + j) t (by omega) (by omega)) (cwV 4 hts gX1_falseAlarmPairs_X1_sameRun rfl rfl rfl (by decide +kernel) ⟨Nat.le_of_ble_eq_true rfl, Nat.le_of_ble_eq_true rfl⟩) hK (va_recv hK.1 hP (ci := 1) (q0 := 0) rfl rfl) (⟨hP, hP⟩) rfl hl.1 rfl (Nat.le_of_ble_eq_true rfl) dX1_falseAlarmPairs_53 ⟨Nat.le_of_ble_eq_true rfl, Nat.le_of_ble_eq_true rfl⟩ ?_
                refine br_neB (tgt := 62) hx hb dX1_falseAlarmPairs_56 (by decide) (fun c56 => ?_) (fun c56 => ?_)
                · have hl : lv_has ls 6 [(5, .int (nI (i + 1 + j))), (3, .int (acF (fun u => (pcP f t true) i (i + 1 + u)) (prC (pcP f t true) (n - t + 1) i) (j + 1))), (4, .int (nI i)), (2, .int (nI (n - t + 1))), (0, .ref (h)), (1, .int (nI t))] := by rw [acF, if_neg (pcP_no (by first | exact Or.inl c43 | exact Or.inr ⟨rfl, c56⟩))]; exact hl
                  refine lv_iinc (v := nI (i + 1 + j + 1)) (lv' := [(5, .int (nI (i + 1 + j + 1))), (3, .int (acF (fun u => (pcP f t true) i (i + 1 + u)) (prC (pcP f t true) (n - t + 1) i) (j + 1))), (4, .int (nI i)), (2, .int (nI (n - t + 1))), (0, .ref (h)), (1, .int (nI t))]) hx hb dX1_falseAlarmPairs_62 hl (k := 0) rfl (nI_1 _) (by decide) rfl (fun ls hl => ?_)
                  refine lv_goto (tgt := 23) hx hb dX1_falseAlarmPairs_65 (by decide) ?_
                  exact ih2 (j + 1) _ (by omega) (by omega) (lv_sub hl [0, 1, 2, 3, 4, 5] rfl)
                · refine lv_iinc (v := acF (fun u => (pcP f t true) i (i + 1 + u)) (prC (pcP f t true) (n - t + 1) i) (j + 1)) (lv' := [(3, .int (acF (fun u => (pcP f t true) i (i + 1 + u)) (prC (pcP f t true) (n - t + 1) i) (j + 1))), (5, .int (nI (i + 1 + j))), (4, .int (nI i)), (2, .int (nI (n - t + 1))), (0, .ref (h)), (1, .int (nI t))]) hx hb dX1_falseAlarmPairs_59 hl (k := 1) rfl (by rw [acF, if_pos (pcP_yes c43 (by first | exact Or.inl rfl | exact Or.inr c56))]; rfl) (by decide) rfl (fun ls hl => ?_)
                  refine lv_iinc (v := nI (i + 1 + j + 1)) (lv' := [(5, .int (nI (i + 1 + j + 1))), (3, .int (acF (fun u => (pcP f t true) i (i + 1 + u)) (prC (pcP f t true) (n - t + 1) i) (j + 1))), (4, .int (nI i)), (2, .int (nI (n - t + 1))), (0, .ref (h)), (1, .int (nI t))]) hx hb dX1_falseAlarmPairs_62 hl (k := 1) rfl (nI_1 _) (by decide) rfl (fun ls hl => ?_)
                  refine lv_goto (tgt := 23) hx hb dX1_falseAlarmPairs_65 (by decide) ?_
                  exact ih2 (j + 1) _ (by omega) (by omega) (lv_sub hl [0, 1, 2, 3, 4, 5] rfl)
        exact L23 (((n - t + 1) - (i + 1)) + 1) (0) _ (by omega) (by omega) (lv_sub hl [0, 2, 1, 3, 4, 5] rfl)
  exact L11 ((n - t + 1) + 1) (0) _ (by omega) (by omega) (lv_sub hl [0, 1, 2, 3, 4] rfl)

set_option maxHeartbeats 4000000 in
set_option maxRecDepth 100000 in
/-- falseAlarmPairs(t), fewer signs -/
theorem c_X1_falseAlarmPairs0 (l : Launch) (g : gT) (h a b : Nat) (f w : Nat → Int32) (n : Nat) (hn : n ≤ 40) (t : Nat) (ht : t ≤ 40) (ht2 : n < t) : wM g l yX1_falseAlarmPairs wsX1_falseAlarmPairs { frames := 2, cells := 0, slots := 0, locals := 47 } [.ref (h), .int (nI t)] (ltW g h a b f w n) (some (.int (0))) (ltW g h a b f w n) := by
  refine wr_ofI (cc := cX1_falseAlarmPairs) (maxL := 6) (by decide) rfl (Nat.le_of_ble_eq_true rfl) ?_
  intro p e s m args below meth c H0 ls A Q hx hb hml hts hown hK hP hD hS hl hret
  have hl : lv_has ls 6 [(0, .ref (h)), (1, .int (nI t))] := hl
  have S : CallFix p m c cX1_falseAlarmPairs 6 s args wsX1_falseAlarmPairs RX1 := ⟨hx, hb, hml, hown, hts⟩
  obtain ⟨H, eH⟩ : ∃ H : Heap, H = H0 := ⟨_, rfl⟩
  rw [← eH] at hP ⊢
  have hS : va_S A H0 H [] := by rw [eH]; exact hS
  have hP : va_P (gD g) vwCl [(h, .inr (1, [.ref (a), .ref (b), .int (nI n)])), (a, .inl (gI g, 40, .inl (f))), (b, .inl (gI g, 40, .inl (w)))] H := hP
  have hD : va_D A [(h, .inr (1, [.ref (a), .ref (b), .int (nI n)])), (a, .inl (gI g, 40, .inl (f))), (b, .inl (gI g, 40, .inl (w)))] := hD
  refine lv_aload_n hx hb dX1_falseAlarmPairs_0 rfl (lv_at hl 0 rfl) ?_
  refine lv_iload_n hx hb dX1_falseAlarmPairs_1 rfl (lv_at hl 1 rfl) ?_
  refine w_V (As := [.int (nI t)]) (rest := []) S (c_X1_fillWindowSums0 l g h a b f w n hn t ht ht2) (cwV 1 hts gX1_falseAlarmPairs_X1_fillWindowSums rfl rfl rfl (by decide +kernel) ⟨Nat.le_of_ble_eq_true rfl, Nat.le_of_ble_eq_true rfl⟩) hK (va_recv hK.1 hP (ci := 1) (q0 := 0) rfl rfl) hP (hD.weaken (fun _ _ _ _ => trivial)) hS (wA_D hD [0, 1, 2] rfl) rfl hl.1 rfl (Nat.le_of_ble_eq_true rfl) dX1_falseAlarmPairs_2 ⟨Nat.le_of_ble_eq_true rfl, Nat.le_of_ble_eq_true rfl⟩ (fun H locs hP1 hz1 hk1 hS => ?_)
  have hP : va_P (gD g) vwCl [(h, .inr (1, [.ref (a), .ref (b), .int (nI n)])), (a, .inl (gI g, 40, .inl (f))), (b, .inl (gI g, 40, .inl (w)))] H := hP1
  refine lv_istore_n (lv' := [(2, .int (nI n - nI t + 1)), (0, .ref (h)), (1, .int (nI t))]) hx hb dX1_falseAlarmPairs_5 rfl hl (by decide) rfl (fun ls hl => ?_)
  refine lv_iconst (v := 0) hx hb dX1_falseAlarmPairs_6 (by decide +kernel) ?_
  refine lv_istore_n (lv' := [(3, .int (0)), (2, .int (nI n - nI t + 1)), (0, .ref (h)), (1, .int (nI t))]) hx hb dX1_falseAlarmPairs_7 rfl hl (by decide) rfl (fun ls hl => ?_)
  refine lv_iconst (v := nI (0)) hx hb dX1_falseAlarmPairs_8 (by decide +kernel) ?_
  refine lv_istore (lv' := [(4, .int (nI (0))), (3, .int (0)), (2, .int (nI n - nI t + 1)), (0, .ref (h)), (1, .int (nI t))]) hx hb dX1_falseAlarmPairs_9 hl (by decide) rfl (fun ls hl => ?_)
  refine lv_iload hx hb dX1_falseAlarmPairs_11 (lv_at hl 0 rfl) ?_
  refine lv_iload_n hx hb dX1_falseAlarmPairs_13 rfl (lv_at hl 2 rfl) ?_
  refine lv_icmp_ge (tgt := 74) hx hb dX1_falseAlarmPairs_14 (by decide) (fun c14 => ?_) (fun c14 => ?_)
  · refine lv_iload_n hx hb dX1_falseAlarmPairs_74 rfl (lv_at hl 1 rfl) ?_
    exact hret _ _ _ _ hP hS dX1_falseAlarmPairs_75
  · exact absurd (neg_wb n (by omega) t (by omega) ht2) c14

set_option maxHeartbeats 4000000 in
set_option maxRecDepth 100000 in
/-- chainedSeal -/
theorem c_X2_chainedSeal (l : Launch) (g : gT) (x d : Int32) : pM g l yX2_chainedSeal wsX2_chainedSeal { frames := 0, cells := 0, slots := 0, locals := 0 } [.int (x), .int (d)] (fun _ => True) (.int (slF x d)) := by
  refine pu_ofI (cc := cX2_chainedSeal) (maxL := 2) (by decide) rfl (Nat.le_of_ble_eq_true rfl) ?_
  intro p e s m args below meth c H ls Q hx hb hml hts hown hK hP hl hret
  have hl : lv_has ls 2 [(0, .int (x)), (1, .int (d))] := hl
  have S : CallFix p m c cX2_chainedSeal 2 s args wsX2_chainedSeal RX2 := ⟨hx, hb, hml, hown, hts⟩
  have k183 := hts (.constant RX2 183 (65521)) (by decide +kernel)
  refine lv_iload_n hx hb dX2_chainedSeal_0 rfl (lv_at hl 0 rfl) ?_
  refine lv_bipush (v := 53) hx hb dX2_chainedSeal_1 (by decide +kernel) ?_
  refine lv_imul hx hb dX2_chainedSeal_3 ?_
  refine lv_iload_n hx hb dX2_chainedSeal_4 rfl (lv_at hl 1 rfl) ?_
  refine lv_iadd hx hb dX2_chainedSeal_5 ?_
  refine lv_ldc (v := 65521) hx hb hown k183 dX2_chainedSeal_6 ?_
  refine lv_irem hx hb dX2_chainedSeal_8 (by decide +kernel) ?_
  exact hret _ _ dX2_chainedSeal_9

set_option maxHeartbeats 4000000 in
set_option maxRecDepth 100000 in
/-- fill(x, letter, z) -/
theorem c_X0_fill (l : Launch) (g : gT) (q y : Nat) (ln dg : Int32) (sc bc : Nat) (ss wg sl : Int32) (bs : Nat → Int32) (h a b : Nat) (f w : Nat → Int32) (n : Nat) (hn : n ≤ 40) (x z : Int32) : wM g l yX0_fill wsX0_fill { frames := 1, cells := 0, slots := 0, locals := 24 } [.ref (q), .int (x), .ref (h), .int (z)] (evW g q y ln dg sc bc ss wg sl bs ++ ltW g h a b f w n) none (evW g q y x (dgF f n) n ((n + 4) / 5) (smF f n) (wtF f n) (slF z (dgF f n)) (flF bs (blF f n) ((n + 4) / 5)) ++ ltW g h a b f w n) := by
  refine wr_ofV (cc := cX0_fill) (maxL := 5) (by decide) rfl (Nat.le_of_ble_eq_true rfl) ?_
  intro p e s m args below meth c H0 ls A Q hx hb hml hts hown hK hP hD hS hl hret
  have hl : lv_has ls 5 [(0, .ref (q)), (1, .int (x)), (2, .ref (h)), (3, .int (z))] := hl
  have S : CallFix p m c cX0_fill 5 s args wsX0_fill RX0 := ⟨hx, hb, hml, hown, hts⟩
  have iX0 : ∀ w ∈ u_ws RX0 TX0 8, w ∈ wsX0_fill := by decide +kernel
  have iX1 : ∀ w ∈ u_ws RX1 TX1 3, w ∈ wsX0_fill := by decide +kernel
  have f9 := hts (.fieldLink RX0 9 "LetterSeals$Envelope" "blockSums" "[I") (by decide +kernel)
  have f15 := hts (.fieldLink RX0 15 "LetterSeals$Envelope" "letterNumber" "I") (by decide +kernel)
  have f25 := hts (.fieldLink RX0 25 "LetterSeals$Envelope" "digest" "I") (by decide +kernel)
  have f31 := hts (.fieldLink RX0 31 "LetterSeals$Envelope" "signCount" "I") (by decide +kernel)
  have f37 := hts (.fieldLink RX0 37 "LetterSeals$Envelope" "blockCount" "I") (by decide +kernel)
  have f46 := hts (.fieldLink RX0 46 "LetterSeals$Envelope" "signSum" "I") (by decide +kernel)
  have f51 := hts (.fieldLink RX0 51 "LetterSeals$Envelope" "weightedSum" "I") (by decide +kernel)
  have f57 := hts (.fieldLink RX0 57 "LetterSeals$Envelope" "seal" "I") (by decide +kernel)
  have n28 : (Cond.fieldLinkNest RX0 28 "LetterSeals$Letter" "count" "I" "LetterSeals").before args s = true := va_Nw.use rfl (hK.2.1 ("LetterSeals$Envelope", 28, "LetterSeals$Letter", "count", "I") (List.mem_of_getElem? (i := 2) rfl))
  obtain ⟨H, eH⟩ : ∃ H : Heap, H = H0 := ⟨_, rfl⟩
  rw [← eH] at hP ⊢
  have hS : va_S A H0 H [] := by rw [eH]; exact hS
  have hP : va_P (gD g) vwCl [(q, .inr (0, [.ref (y), .int (ln), .int (dg), .int (nI sc), .int (nI bc), .int (ss), .int (wg), .int (sl)])), (y, .inl (gI g, 8, .inl (bs))), (h, .inr (1, [.ref (a), .ref (b), .int (nI n)])), (a, .inl (gI g, 40, .inl (f))), (b, .inl (gI g, 40, .inl (w)))] H := hP
  have hD : va_D A [(q, .inr (0, [.ref (y), .int (ln), .int (dg), .int (nI sc), .int (nI bc), .int (ss), .int (wg), .int (sl)])), (y, .inl (gI g, 8, .inl (bs))), (h, .inr (1, [.ref (a), .ref (b), .int (nI n)])), (a, .inl (gI g, 40, .inl (f))), (b, .inl (gI g, 40, .inl (w)))] := hD
  refine lv_aload_n hx hb dX0_fill_0 rfl (lv_at hl 0 rfl) ?_
  refine lv_iload_n hx hb dX0_fill_1 rfl (lv_at hl 1 rfl) ?_
  refine va_put (D := gD g) (ci := 0) (v := .int (x)) (ty := .int) (C := RX0) (T := TX0) (N := 8) hx hb hts iX0 tyX0 tyX0_ok nmX0 hown hK.1 hP hD hS 0 rfl rfl 1 (by decide) f15 (fun _ h9 => h9) rfl (by decide +kernel) rfl rfl (Nat.le_of_ble_eq_true rfl) dX0_fill_2 (fun H locs hP hD hS => ?_)
  have hP : va_P (gD g) vwCl [(q, .inr (0, [.ref (y), .int (x), .int (dg), .int (nI sc), .int (nI bc), .int (ss), .int (wg), .int (sl)])), (y, .inl (gI g, 8, .inl (bs))), (h, .inr (1, [.ref (a), .ref (b), .int (nI n)])), (a, .inl (gI g, 40, .inl (f))), (b, .inl (gI g, 40, .inl (w)))] H := hP
  have hD : va_D A [(q, .inr (0, [.ref (y), .int (x), .int (dg), .int (nI sc), .int (nI bc), .int (ss), .int (wg), .int (sl)])), (y, .inl (gI g, 8, .inl (bs))), (h, .inr (1, [.ref (a), .ref (b), .int (nI n)])), (a, .inl (gI g, 40, .inl (f))), (b, .inl (gI g, 40, .inl (w)))] := hD
  refine lv_aload_n hx hb dX0_fill_5 rfl (lv_at hl 0 rfl) ?_
  refine lv_aload_n hx hb dX0_fill_6 rfl (lv_at hl 2 rfl) ?_
  refine p_V (As := []) (rest := [.ref (q)]) S (c_X1_signDigest l g h a b f w n hn) (cwV 0 hts gX0_fill_X1_signDigest rfl rfl rfl (by decide +kernel) ⟨Nat.le_of_ble_eq_true rfl, Nat.le_of_ble_eq_true rfl⟩) hK (va_recv hK.1 hP (ci := 1) (q0 := 2) rfl rfl) (hP.sub (ws' := ltW g h a b f w n) [2, 3, 4] rfl) rfl hl.1 rfl (Nat.le_of_ble_eq_true rfl) dX0_fill_7 ⟨Nat.le_of_ble_eq_true rfl, Nat.le_of_ble_eq_true rfl⟩ ?_
  refine va_put (D := gD g) (ci := 0) (v := .int (dgF f n)) (ty := .int) (C := RX0) (T := TX0) (N := 8) hx hb hts iX0 tyX0 tyX0_ok nmX0 hown hK.1 hP hD hS 0 rfl rfl 2 (by decide) f25 (fun _ h9 => h9) rfl (by decide +kernel) rfl rfl (Nat.le_of_ble_eq_true rfl) dX0_fill_10 (fun H locs hP hD hS => ?_)
  have hP : va_P (gD g) vwCl [(q, .inr (0, [.ref (y), .int (x), .int (dgF f n), .int (nI sc), .int (nI bc), .int (ss), .int (wg), .int (sl)])), (y, .inl (gI g, 8, .inl (bs))), (h, .inr (1, [.ref (a), .ref (b), .int (nI n)])), (a, .inl (gI g, 40, .inl (f))), (b, .inl (gI g, 40, .inl (w)))] H := hP
  have hD : va_D A [(q, .inr (0, [.ref (y), .int (x), .int (dgF f n), .int (nI sc), .int (nI bc), .int (ss), .int (wg), .int (sl)])), (y, .inl (gI g, 8, .inl (bs))), (h, .inr (1, [.ref (a), .ref (b), .int (nI n)])), (a, .inl (gI g, 40, .inl (f))), (b, .inl (gI g, 40, .inl (w)))] := hD
  refine lv_aload_n hx hb dX0_fill_13 rfl (lv_at hl 0 rfl) ?_
  refine lv_aload_n hx hb dX0_fill_14 rfl (lv_at hl 2 rfl) ?_
  refine va_getN (D := gD g) (ci := 1) (v := .int (nI n)) (C := RX1) (T := TX1) (N := 3) hx hb hts iX1 hown hK.1 hP 2 rfl rfl 2 (by decide) n28 (fun _ h9 => h9) rfl dX0_fill_15 ?_
  refine va_put (D := gD g) (ci := 0) (v := .int (nI n)) (ty := .int) (C := RX0) (T := TX0) (N := 8) hx hb hts iX0 tyX0 tyX0_ok nmX0 hown hK.1 hP hD hS 0 rfl rfl 3 (by decide) f31 (fun _ h9 => h9) rfl (by decide +kernel) rfl rfl (Nat.le_of_ble_eq_true rfl) dX0_fill_18 (fun H locs hP hD hS => ?_)
  have hP : va_P (gD g) vwCl [(q, .inr (0, [.ref (y), .int (x), .int (dgF f n), .int (nI n), .int (nI bc), .int (ss), .int (wg), .int (sl)])), (y, .inl (gI g, 8, .inl (bs))), (h, .inr (1, [.ref (a), .ref (b), .int (nI n)])), (a, .inl (gI g, 40, .inl (f))), (b, .inl (gI g, 40, .inl (w)))] H := hP
  have hD : va_D A [(q, .inr (0, [.ref (y), .int (x), .int (dgF f n), .int (nI n), .int (nI bc), .int (ss), .int (wg), .int (sl)])), (y, .inl (gI g, 8, .inl (bs))), (h, .inr (1, [.ref (a), .ref (b), .int (nI n)])), (a, .inl (gI g, 40, .inl (f))), (b, .inl (gI g, 40, .inl (w)))] := hD
  refine lv_aload_n hx hb dX0_fill_21 rfl (lv_at hl 0 rfl) ?_
  refine lv_aload_n hx hb dX0_fill_22 rfl (lv_at hl 2 rfl) ?_
  refine p_V (As := []) (rest := [.ref (q)]) S (c_X1_blockCount l g h a b f w n hn) (cwV 0 hts gX0_fill_X1_blockCount rfl rfl rfl (by decide +kernel) ⟨Nat.le_of_ble_eq_true rfl, Nat.le_of_ble_eq_true rfl⟩) hK (va_recv hK.1 hP (ci := 1) (q0 := 2) rfl rfl) (hP.sub (ws' := ltW g h a b f w n) [2, 3, 4] rfl) rfl hl.1 rfl (Nat.le_of_ble_eq_true rfl) dX0_fill_23 ⟨Nat.le_of_ble_eq_true rfl, Nat.le_of_ble_eq_true rfl⟩ ?_
  refine va_put (D := gD g) (ci := 0) (v := .int (nI ((n + 4) / 5))) (ty := .int) (C := RX0) (T := TX0) (N := 8) hx hb hts iX0 tyX0 tyX0_ok nmX0 hown hK.1 hP hD hS 0 rfl rfl 4 (by decide) f37 (fun _ h9 => h9) rfl (by decide +kernel) rfl rfl (Nat.le_of_ble_eq_true rfl) dX0_fill_26 (fun H locs hP hD hS => ?_)
  have hP : va_P (gD g) vwCl [(q, .inr (0, [.ref (y), .int (x), .int (dgF f n), .int (nI n), .int (nI ((n + 4) / 5)), .int (ss), .int (wg), .int (sl)])), (y, .inl (gI g, 8, .inl (bs))), (h, .inr (1, [.ref (a), .ref (b), .int (nI n)])), (a, .inl (gI g, 40, .inl (f))), (b, .inl (gI g, 40, .inl (w)))] H := hP
  have hD : va_D A [(q, .inr (0, [.ref (y), .int (x), .int (dgF f n), .int (nI n), .int (nI ((n + 4) / 5)), .int (ss), .int (wg), .int (sl)])), (y, .inl (gI g, 8, .inl (bs))), (h, .inr (1, [.ref (a), .ref (b), .int (nI n)])), (a, .inl (gI g, 40, .inl (f))), (b, .inl (gI g, 40, .inl (w)))] := hD
  refine lv_iconst (v := nI (0)) hx hb dX0_fill_29 (by decide +kernel) ?_
  refine lv_istore (lv' := [(4, .int (nI (0))), (0, .ref (q)), (1, .int (x)), (2, .ref (h)), (3, .int (z))]) hx hb dX0_fill_30 hl (by decide) rfl (fun ls hl => ?_)
  have L32 : ∀ (k1 i : Nat) (H : Heap) (locs : List Loc) (ls : Array Slot), ((n + 4) / 5) - i < k1 → i ≤ ((n + 4) / 5) → va_P (gD g) vwCl [(q, .inr (0, [.ref (y), .int (x), .int (dgF f n), .int (nI n), .int (nI ((n + 4) / 5)), .int (ss), .int (wg), .int (sl)])), (y, .inl (gI g, 8, .inl (flF bs (blF f n) i))), (h, .inr (1, [.ref (a), .ref (b), .int (nI n)])), (a, .inl (gI g, 40, .inl (f))), (b, .inl (gI g, 40, .inl (w)))] H → va_D A [(q, .inr (0, [.ref (y), .int (x), .int (dgF f n), .int (nI n), .int (nI ((n + 4) / 5)), .int (ss), .int (wg), .int (sl)])), (y, .inl (gI g, 8, .inl (flF bs (blF f n) i))), (h, .inr (1, [.ref (a), .ref (b), .int (nI n)])), (a, .inl (gI g, 40, .inl (f))), (b, .inl (gI g, 40, .inl (w)))] → va_S A H0 H locs → lv_has ls 5 [(4, .int (nI i)), (0, .ref (q)), (1, .int (x)), (2, .ref (h)), (3, .int (z))] → W p l e { frames := 1, cells := 0, slots := 0, locals := 24 } s m args below meth c H locs 0 0 Q (F0 m 32 ls []) := by
    intro k1
    induction k1 with
    | zero => intro i H locs ls hFu; exact absurd hFu (Nat.not_lt_zero _)
    | succ k1 ih1 =>
      intro i H locs ls hFu hLe hP hD hS hl
      refine lv_iload hx hb dX0_fill_32 (lv_at hl 0 rfl) ?_
      refine lv_aload_n hx hb dX0_fill_34 rfl (lv_at hl 1 rfl) ?_
      refine va_get (D := gD g) (ci := 0) (v := .int (nI ((n + 4) / 5))) (C := RX0) (T := TX0) (N := 8) hx hb hts iX0 hown hK.1 hP 0 rfl rfl 4 (by decide) f37 (fun _ h9 => h9) rfl dX0_fill_35 ?_
      refine br_ge (a := i) (b := (n + 4) / 5) (tgt := 60) hx hb (by omega) (by omega) dX0_fill_38 (by decide) (fun c38 => ?_) (fun c38 => ?_)
      · have ei : i = (n + 4) / 5 := by omega
        rw [ei] at hP hD
        refine lv_aload_n hx hb dX0_fill_60 rfl (lv_at hl 1 rfl) ?_
        refine lv_aload_n hx hb dX0_fill_61 rfl (lv_at hl 3 rfl) ?_
        refine p_V (As := []) (rest := [.ref (q)]) S (c_X1_signSum l g h a b f w n hn) (cwV 0 hts gX0_fill_X1_signSum rfl rfl rfl (by decide +kernel) ⟨Nat.le_of_ble_eq_true rfl, Nat.le_of_ble_eq_true rfl⟩) hK (va_recv hK.1 hP (ci := 1) (q0 := 2) rfl rfl) (hP.sub (ws' := ltW g h a b f w n) [2, 3, 4] rfl) rfl hl.1 rfl (Nat.le_of_ble_eq_true rfl) dX0_fill_62 ⟨Nat.le_of_ble_eq_true rfl, Nat.le_of_ble_eq_true rfl⟩ ?_
        refine va_put (D := gD g) (ci := 0) (v := .int (smF f n)) (ty := .int) (C := RX0) (T := TX0) (N := 8) hx hb hts iX0 tyX0 tyX0_ok nmX0 hown hK.1 hP hD hS 0 rfl rfl 5 (by decide) f46 (fun _ h9 => h9) rfl (by decide +kernel) rfl rfl (Nat.le_of_ble_eq_true rfl) dX0_fill_65 (fun H locs hP hD hS => ?_)
        have hP : va_P (gD g) vwCl [(q, .inr (0, [.ref (y), .int (x), .int (dgF f n), .int (nI n), .int (nI ((n + 4) / 5)), .int (smF f n), .int (wg), .int (sl)])), (y, .inl (gI g, 8, .inl (flF bs (blF f n) ((n + 4) / 5)))), (h, .inr (1, [.ref (a), .ref (b), .int (nI n)])), (a, .inl (gI g, 40, .inl (f))), (b, .inl (gI g, 40, .inl (w)))] H := hP
        have hD : va_D A [(q, .inr (0, [.ref (y), .int (x), .int (dgF f n), .int (nI n), .int (nI ((n + 4) / 5)), .int (smF f n), .int (wg), .int (sl)])), (y, .inl (gI g, 8, .inl (flF bs (blF f n) ((n + 4) / 5)))), (h, .inr (1, [.ref (a), .ref (b), .int (nI n)])), (a, .inl (gI g, 40, .inl (f))), (b, .inl (gI g, 40, .inl (w)))] := hD
        refine lv_aload_n hx hb dX0_fill_68 rfl (lv_at hl 1 rfl) ?_
        refine lv_aload_n hx hb dX0_fill_69 rfl (lv_at hl 3 rfl) ?_
        refine p_V (As := []) (rest := [.ref (q)]) S (c_X1_weightedSum l g h a b f w n hn) (cwV 0 hts gX0_fill_X1_weightedSum rfl rfl rfl (by decide +kernel) ⟨Nat.le_of_ble_eq_true rfl, Nat.le_of_ble_eq_true rfl⟩) hK (va_recv hK.1 hP (ci := 1) (q0 := 2) rfl rfl) (hP.sub (ws' := ltW g h a b f w n) [2, 3, 4] rfl) rfl hl.1 rfl (Nat.le_of_ble_eq_true rfl) dX0_fill_70 ⟨Nat.le_of_ble_eq_true rfl, Nat.le_of_ble_eq_true rfl⟩ ?_
        refine va_put (D := gD g) (ci := 0) (v := .int (wtF f n)) (ty := .int) (C := RX0) (T := TX0) (N := 8) hx hb hts iX0 tyX0 tyX0_ok nmX0 hown hK.1 hP hD hS 0 rfl rfl 6 (by decide) f51 (fun _ h9 => h9) rfl (by decide +kernel) rfl rfl (Nat.le_of_ble_eq_true rfl) dX0_fill_73 (fun H locs hP hD hS => ?_)
        have hP : va_P (gD g) vwCl [(q, .inr (0, [.ref (y), .int (x), .int (dgF f n), .int (nI n), .int (nI ((n + 4) / 5)), .int (smF f n), .int (wtF f n), .int (sl)])), (y, .inl (gI g, 8, .inl (flF bs (blF f n) ((n + 4) / 5)))), (h, .inr (1, [.ref (a), .ref (b), .int (nI n)])), (a, .inl (gI g, 40, .inl (f))), (b, .inl (gI g, 40, .inl (w)))] H := hP
        have hD : va_D A [(q, .inr (0, [.ref (y), .int (x), .int (dgF f n), .int (nI n), .int (nI ((n + 4) / 5)), .int (smF f n), .int (wtF f n), .int (sl)])), (y, .inl (gI g, 8, .inl (flF bs (blF f n) ((n + 4) / 5)))), (h, .inr (1, [.ref (a), .ref (b), .int (nI n)])), (a, .inl (gI g, 40, .inl (f))), (b, .inl (gI g, 40, .inl (w)))] := hD
        refine lv_aload_n hx hb dX0_fill_76 rfl (lv_at hl 1 rfl) ?_
        refine lv_iload_n hx hb dX0_fill_77 rfl (lv_at hl 4 rfl) ?_
        refine lv_aload_n hx hb dX0_fill_78 rfl (lv_at hl 1 rfl) ?_
        refine va_get (D := gD g) (ci := 0) (v := .int (dgF f n)) (C := RX0) (T := TX0) (N := 8) hx hb hts iX0 hown hK.1 hP 0 rfl rfl 2 (by decide) f25 (fun _ h9 => h9) rfl dX0_fill_79 ?_
        refine p_SN (As := [.int (z), .int (dgF f n)]) (rest := [.ref (q)]) S (c_X2_chainedSeal l g (z) (dgF f n)) ⟨va_cnB 2 hts gX0_fill_X2_chainedSeal_n53 rfl rfl rfl (hK.2.2.1 ("LetterSeals$Envelope", 53, yX2_chainedSeal) (List.mem_of_getElem? (i := 2) rfl)) (hts (.initialized RX2) (by decide +kernel)) (by decide +kernel) ⟨Nat.le_of_ble_eq_true rfl, Nat.le_of_ble_eq_true rfl⟩, hts (.static yX2_chainedSeal) (by decide +kernel), trivial⟩ hK trivial rfl hl.1 rfl (Nat.le_of_ble_eq_true rfl) dX0_fill_82 ⟨Nat.le_of_ble_eq_true rfl, Nat.le_of_ble_eq_true rfl⟩ ?_
        refine va_put (D := gD g) (ci := 0) (v := .int (slF (z) (dgF f n))) (ty := .int) (C := RX0) (T := TX0) (N := 8) hx hb hts iX0 tyX0 tyX0_ok nmX0 hown hK.1 hP hD hS 0 rfl rfl 7 (by decide) f57 (fun _ h9 => h9) rfl (by decide +kernel) rfl rfl (Nat.le_of_ble_eq_true rfl) dX0_fill_85 (fun H locs hP hD hS => ?_)
        have hP : va_P (gD g) vwCl [(q, .inr (0, [.ref (y), .int (x), .int (dgF f n), .int (nI n), .int (nI ((n + 4) / 5)), .int (smF f n), .int (wtF f n), .int (slF (z) (dgF f n))])), (y, .inl (gI g, 8, .inl (flF bs (blF f n) ((n + 4) / 5)))), (h, .inr (1, [.ref (a), .ref (b), .int (nI n)])), (a, .inl (gI g, 40, .inl (f))), (b, .inl (gI g, 40, .inl (w)))] H := hP
        have hD : va_D A [(q, .inr (0, [.ref (y), .int (x), .int (dgF f n), .int (nI n), .int (nI ((n + 4) / 5)), .int (smF f n), .int (wtF f n), .int (slF (z) (dgF f n))])), (y, .inl (gI g, 8, .inl (flF bs (blF f n) ((n + 4) / 5)))), (h, .inr (1, [.ref (a), .ref (b), .int (nI n)])), (a, .inl (gI g, 40, .inl (f))), (b, .inl (gI g, 40, .inl (w)))] := hD
        exact hret _ _ _ _ hP hS dX0_fill_88
      · refine lv_aload_n hx hb dX0_fill_41 rfl (lv_at hl 1 rfl) ?_
        refine va_get (D := gD g) (ci := 0) (v := .ref (y)) (C := RX0) (T := TX0) (N := 8) hx hb hts iX0 hown hK.1 hP 0 rfl rfl 0 (by decide) f9 (fun _ h9 => h9) rfl dX0_fill_42 ?_
        refine lv_iload hx hb dX0_fill_45 (lv_at hl 0 rfl) ?_
        refine lv_aload_n hx hb dX0_fill_47 rfl (lv_at hl 3 rfl) ?_
        refine lv_iload hx hb dX0_fill_48 (lv_at hl 0 rfl) ?_
        refine p_V (As := [.int (nI i)]) (rest := [.int (nI i), .ref (y)]) S (c_X1_blockSum l g h a b f w n hn i (by omega)) (cwV 1 hts gX0_fill_X1_blockSum rfl rfl rfl (by decide +kernel) ⟨Nat.le_of_ble_eq_true rfl, Nat.le_of_ble_eq_true rfl⟩) hK (va_recv hK.1 hP (ci := 1) (q0 := 2) rfl rfl) (hP.sub (ws' := ltW g h a b f w n) [2, 3, 4] rfl) rfl hl.1 rfl (Nat.le_of_ble_eq_true rfl) dX0_fill_50 ⟨Nat.le_of_ble_eq_true rfl, Nat.le_of_ble_eq_true rfl⟩ ?_
        refine st_I (k := i) (n := 8) (f := flF bs (blF f n) i) (x := blF f n i) hx hb hK.1 hP hD hS 1 rfl (by omega) (by omega) dX0_fill_53 (fun H locs hP hD hS => ?_)
        have hP : va_P (gD g) vwCl [(q, .inr (0, [.ref (y), .int (x), .int (dgF f n), .int (nI n), .int (nI ((n + 4) / 5)), .int (ss), .int (wg), .int (sl)])), (y, .inl (gI g, 8, .inl (upd (flF bs (blF f n) i) (i) (blF f n i)))), (h, .inr (1, [.ref (a), .ref (b), .int (nI n)])), (a, .inl (gI g, 40, .inl (f))), (b, .inl (gI g, 40, .inl (w)))] H := hP
        have hD : va_D A [(q, .inr (0, [.ref (y), .int (x), .int (dgF f n), .int (nI n), .int (nI ((n + 4) / 5)), .int (ss), .int (wg), .int (sl)])), (y, .inl (gI g, 8, .inl (upd (flF bs (blF f n) i) (i) (blF f n i)))), (h, .inr (1, [.ref (a), .ref (b), .int (nI n)])), (a, .inl (gI g, 40, .inl (f))), (b, .inl (gI g, 40, .inl (w)))] := hD
        have hP : va_P (gD g) vwCl [(q, .inr (0, [.ref (y), .int (x), .int (dgF f n), .int (nI n), .int (nI ((n + 4) / 5)), .int (ss), .int (wg), .int (sl)])), (y, .inl (gI g, 8, .inl (flF bs (blF f n) (i + 1)))), (h, .inr (1, [.ref (a), .ref (b), .int (nI n)])), (a, .inl (gI g, 40, .inl (f))), (b, .inl (gI g, 40, .inl (w)))] H := by rw [flF_up]; exact hP
        have hD : va_D A [(q, .inr (0, [.ref (y), .int (x), .int (dgF f n), .int (nI n), .int (nI ((n + 4) / 5)), .int (ss), .int (wg), .int (sl)])), (y, .inl (gI g, 8, .inl (flF bs (blF f n) (i + 1)))), (h, .inr (1, [.ref (a), .ref (b), .int (nI n)])), (a, .inl (gI g, 40, .inl (f))), (b, .inl (gI g, 40, .inl (w)))] := by rw [flF_up]; exact hD
        refine lv_iinc (v := nI (i + 1)) (lv' := [(4, .int (nI (i + 1))), (0, .ref (q)), (1, .int (x)), (2, .ref (h)), (3, .int (z))]) hx hb dX0_fill_54 hl (k := 0) rfl (nI_1 _) (by decide) rfl (fun ls hl => ?_)
        refine lv_goto (tgt := 32) hx hb dX0_fill_57 (by decide) ?_
        exact ih1 (i + 1) _ _ _ (by omega) (by omega) hP hD hS (lv_sub hl [0, 1, 2, 3, 4] rfl)
  exact L32 (((n + 4) / 5) + 1) (0) _ _ _ (by omega) (by omega) (by rw [flF_0]; exact hP) (by rw [flF_0]; exact hD) hS (lv_sub hl [0, 1, 2, 3, 4] rfl)
