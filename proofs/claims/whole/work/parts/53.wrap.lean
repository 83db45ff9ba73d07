set_option maxHeartbeats 4000000 in
set_option maxRecDepth 100000 in
/-- the law's own addLetter -/
theorem c_L_addLetter (l : Launch) (g : gT) (AD : Nat → Nat) (LL : Nat → ltT) (EE : Nat → evT) (LN : Nat → Nat) (lc ec : Nat) (hlc : lc ≤ 12) (hec : ec ≤ 24) (hLL : ∀ i, i < 12 → (LL i).2.2 ≤ 40) (hEE : ∀ q, q < ec → (EE q).1 = nI (LN q) ∧ LN q < lc ∧ (EE q).2.2.1 ≤ 40 ∧ (EE q).2.2.2.1 ≤ 8) (hl1 : lc < 12) (ou : Nat) (v : Int64) : lM g l yL_addLetter wsL_addLetter { frames := 8, cells := 1, slots := 6, locals := 122 } [.ref (AD 0), .ref (ou)] (wsD g AD LL EE lc ec) ou v 0 (wsD g AD LL EE (lc + 1) ec) ((nI lc).toInt64) := by
  refine lr_of (cc := cL_addLetter) (maxL := 3) (by decide) rfl (Nat.le_of_ble_eq_true rfl) ?_
  intro p e s m args below meth c ls Q hx hb hml hts hown hK hZ hP hO hD hNo htab hl hret
  have hl : lv_has ls 3 [(0, .ref (AD 0)), (1, .ref (ou))] := hl
  have S : CallFix p m c cL_addLetter 3 s args wsL_addLetter RL := ⟨hx, hb, hml, hown, hts⟩
  have hAo : ∀ k, k < 87 → ¬ AD k = ou := dk_no hNo
  refine W.widen (Nat.zero_le 1) (Nat.zero_le 6) ?_
  refine lv_aload_n hx hb dL_addLetter_0 rfl (lv_at hl 1 rfl) ?_
  refine lv_iconst (v := 0) hx hb dL_addLetter_1 (by decide +kernel) ?_
  refine lv_aload_n hx hb dL_addLetter_2 rfl (lv_at hl 0 rfl) ?_
  obtain ⟨H, eH⟩ : ∃ H : Heap, H = s.heap := ⟨_, rfl⟩
  have hS : va_S (lA (wsD g AD LL EE lc ec) ou) s.heap H [] := by rw [eH]; exact va_S.rf
  rw [← eH] at hP hO
  rw [← eH]
  refine w_V (As := []) (rest := [.int (0), .ref (ou)]) S (c_X2_addLetter l g AD LL EE LN lc ec hlc hec hLL hEE hl1) (cwV 0 hts gL_addLetter_X2_addLetter rfl rfl rfl (by decide +kernel) ⟨Nat.le_of_ble_eq_true rfl, Nat.le_of_ble_eq_true rfl⟩) hK (va_recv hK.1 hP (ci := 2) (q0 := 0) rfl dk_me) hP hD hS (fun q h9 => Or.inl h9) rfl hl.1 rfl (Nat.le_of_ble_eq_true rfl) dL_addLetter_3 ⟨Nat.le_of_ble_eq_true rfl, Nat.le_of_ble_eq_true rfl⟩ (fun H locs hP hz1 hk1 hS => ?_)
  have hO := out_kept hO hk1 hNo
  refine lv_i2l (v := (nI lc).toInt64) hx hb dL_addLetter_6 rfl ?_
  refine st_J (o := ou) (cA := gJ g) (v := v) (x := (nI lc).toInt64) (A := lA (wsD g AD LL EE lc ec) ou) hx hb hK.1 hO (Or.inr rfl) hS 3 rfl dL_addLetter_7 (fun H locs hO hk2 hS => ?_)
  have hP := dk_keep hP hk2 hAo
  refine lv_goto (tgt := 14) hx hb dL_addLetter_8 (by decide) ?_
  refine lv_iconst (v := 0) hx hb dL_addLetter_14 (by decide +kernel) ?_
  exact hret _ _ _ _ hP hO hS dL_addLetter_15

set_option maxHeartbeats 4000000 in
set_option maxRecDepth 100000 in
/-- the law's own addLetter_x -/
theorem c_L_addLetter_x (l : Launch) (hlt : l.stackTraces = false) (g : gT) (AD : Nat → Nat) (LL : Nat → ltT) (EE : Nat → evT) (LN : Nat → Nat) (lc ec : Nat) (hlc : lc ≤ 12) (hec : ec ≤ 24) (hLL : ∀ i, i < 12 → (LL i).2.2 ≤ 40) (hEE : ∀ q, q < ec → (EE q).1 = nI (LN q) ∧ LN q < lc ∧ (EE q).2.2.1 ≤ 40 ∧ (EE q).2.2.2.1 ≤ 8) (hl1 : lc = 12) (ou : Nat) (v : Int64) : lM g l yL_addLetter wsL_addLetter { frames := 8, cells := 1, slots := 6, locals := 122 } [.ref (AD 0), .ref (ou)] (wsD g AD LL EE lc ec) ou v 1 (wsD g AD LL EE lc ec) (v) := by
  refine lr_of (cc := cL_addLetter) (maxL := 3) (by decide) rfl (Nat.le_of_ble_eq_true rfl) ?_
  intro p e s m args below meth c ls Q hx hb hml hts hown hK hZ hP hO hD hNo htab hl hret
  have hl : lv_has ls 3 [(0, .ref (AD 0)), (1, .ref (ou))] := hl
  have S : CallFix p m c cL_addLetter 3 s args wsL_addLetter RL := ⟨hx, hb, hml, hown, hts⟩
  have hAo : ∀ k, k < 87 → ¬ AD k = ou := dk_no hNo
  refine lv_aload_n hx hb dL_addLetter_0 rfl (lv_at hl 1 rfl) ?_
  refine lv_iconst (v := 0) hx hb dL_addLetter_1 (by decide +kernel) ?_
  refine lv_aload_n hx hb dL_addLetter_2 rfl (lv_at hl 0 rfl) ?_
  refine lx_V (E := "java/lang/IllegalStateException") (As := []) (rest := [.int (0), .ref (ou)]) S (c_X2_addLetter_x l hlt g AD LL EE LN lc ec hlc hec hLL hEE hl1) (cwV 0 hts gL_addLetter_X2_addLetter rfl rfl rfl (by decide +kernel) ⟨Nat.le_of_ble_eq_true rfl, Nat.le_of_ble_eq_true rfl⟩) hK hZ (va_recv hK.1 hP (ci := 2) (q0 := 0) rfl dk_me) hP rfl hl.1 rfl (Nat.le_of_ble_eq_true rfl) dL_addLetter_3 ⟨Nat.le_of_ble_eq_true rfl, Nat.le_of_ble_eq_true rfl⟩ [] ⟨0, 8, 11, 13⟩ [] htab (fun _ h9 => absurd h9 List.not_mem_nil) (by decide) (by decide) (hts (.classLink RL 13 "java/lang/IllegalStateException") (by decide +kernel)) (List.mem_of_getElem? (i := 2) rfl) (fun H qx hz1 hk1 => ?_)
  have hP := dk_old hP hk1
  have hO := out_old hO hk1
  have hS : va_S (lA (wsD g AD LL EE lc ec) ou) s.heap H [] := ⟨hz1, fun q h1 _ => hk1 q h1, fun q h => nomatch h⟩
  refine lv_astore_n (lv' := [(2, .ref (qx)), (0, .ref (AD 0)), (1, .ref (ou))]) hx hb dL_addLetter_11 rfl hl (by decide) rfl (fun ls hl => ?_)
  refine lv_iconst (v := 1) hx hb dL_addLetter_12 (by decide +kernel) ?_
  exact hret _ _ _ _ hP hO hS dL_addLetter_13

set_option maxHeartbeats 4000000 in
set_option maxRecDepth 100000 in
/-- the law's own copyLetter -/
theorem c_L_copyLetter (l : Launch) (g : gT) (AD : Nat → Nat) (LL : Nat → ltT) (EE : Nat → evT) (LN : Nat → Nat) (lc ec : Nat) (hlc : lc ≤ 12) (hec : ec ≤ 24) (hLL : ∀ i, i < 12 → (LL i).2.2 ≤ 40) (hEE : ∀ q, q < ec → (EE q).1 = nI (LN q) ∧ LN q < lc ∧ (EE q).2.2.1 ≤ 40 ∧ (EE q).2.2.2.1 ≤ 8) (k : Nat) (hk : k < lc) (hl1 : lc < 12) (ou : Nat) (v : Int64) : lM g l yL_copyLetter wsL_copyLetter { frames := 8, cells := 1, slots := 6, locals := 125 } [.ref (AD 0), .int (nI k), .ref (ou)] (wsD g AD LL EE lc ec) ou v 0 (wsD g AD (fup LL lc ((flF (LL lc).1 (LL k).1 (LL k).2.2, (LL lc).2.1, (LL k).2.2) : ltT)) EE (lc + 1) ec) ((nI lc).toInt64) := by
  refine lr_of (cc := cL_copyLetter) (maxL := 4) (by decide) rfl (Nat.le_of_ble_eq_true rfl) ?_
  intro p e s m args below meth c ls Q hx hb hml hts hown hK hZ hP hO hD hNo htab hl hret
  have hl : lv_has ls 4 [(0, .ref (AD 0)), (1, .int (nI k)), (2, .ref (ou))] := hl
  have S : CallFix p m c cL_copyLetter 4 s args wsL_copyLetter RL := ⟨hx, hb, hml, hown, hts⟩
  have hAo : ∀ k, k < 87 → ¬ AD k = ou := dk_no hNo
  refine W.widen (Nat.zero_le 1) (Nat.zero_le 6) ?_
  refine lv_aload_n hx hb dL_copyLetter_0 rfl (lv_at hl 2 rfl) ?_
  refine lv_iconst (v := 0) hx hb dL_copyLetter_1 (by decide +kernel) ?_
  refine lv_aload_n hx hb dL_copyLetter_2 rfl (lv_at hl 0 rfl) ?_
  refine lv_iload_n hx hb dL_copyLetter_3 rfl (lv_at hl 1 rfl) ?_
  obtain ⟨H, eH⟩ : ∃ H : Heap, H = s.heap := ⟨_, rfl⟩
  have hS : va_S (lA (wsD g AD LL EE lc ec) ou) s.heap H [] := by rw [eH]; exact va_S.rf
  rw [← eH] at hP hO
  rw [← eH]
  refine w_V (As := [.int (nI k)]) (rest := [.int (0), .ref (ou)]) S (c_X2_copyLetter l g AD LL EE LN lc ec hlc hec hLL hEE k hk hl1) (cwV 1 hts gL_copyLetter_X2_copyLetter rfl rfl rfl (by decide +kernel) ⟨Nat.le_of_ble_eq_true rfl, Nat.le_of_ble_eq_true rfl⟩) hK (va_recv hK.1 hP (ci := 2) (q0 := 0) rfl dk_me) hP hD hS (fun q h9 => Or.inl h9) rfl hl.1 rfl (Nat.le_of_ble_eq_true rfl) dL_copyLetter_4 ⟨Nat.le_of_ble_eq_true rfl, Nat.le_of_ble_eq_true rfl⟩ (fun H locs hP hz1 hk1 hS => ?_)
  have hO := out_kept hO hk1 hNo
  refine lv_i2l (v := (nI lc).toInt64) hx hb dL_copyLetter_7 rfl ?_
  refine st_J (o := ou) (cA := gJ g) (v := v) (x := (nI lc).toInt64) (A := lA (wsD g AD LL EE lc ec) ou) hx hb hK.1 hO (Or.inr rfl) hS 3 rfl dL_copyLetter_8 (fun H locs hO hk2 hS => ?_)
  have hP := dk_keep hP hk2 hAo
  refine lv_goto (tgt := 18) hx hb dL_copyLetter_9 (by decide) ?_
  refine lv_iconst (v := 0) hx hb dL_copyLetter_18 (by decide +kernel) ?_
  exact hret _ _ _ _ hP hO hS dL_copyLetter_19

set_option maxHeartbeats 4000000 in
set_option maxRecDepth 100000 in
/-- the law's own copyLetter_x -/
theorem c_L_copyLetter_x (l : Launch) (hlt : l.stackTraces = false) (g : gT) (AD : Nat → Nat) (LL : Nat → ltT) (EE : Nat → evT) (LN : Nat → Nat) (lc ec : Nat) (hlc : lc ≤ 12) (hec : ec ≤ 24) (hLL : ∀ i, i < 12 → (LL i).2.2 ≤ 40) (hEE : ∀ q, q < ec → (EE q).1 = nI (LN q) ∧ LN q < lc ∧ (EE q).2.2.1 ≤ 40 ∧ (EE q).2.2.2.1 ≤ 8) (x : Int32) (hxb : inB x lc = false) (ou : Nat) (v : Int64) : lM g l yL_copyLetter wsL_copyLetter { frames := 8, cells := 1, slots := 6, locals := 125 } [.ref (AD 0), .int (x), .ref (ou)] (wsD g AD LL EE lc ec) ou v 1 (wsD g AD LL EE lc ec) (v) := by
  refine lr_of (cc := cL_copyLetter) (maxL := 4) (by decide) rfl (Nat.le_of_ble_eq_true rfl) ?_
  intro p e s m args below meth c ls Q hx hb hml hts hown hK hZ hP hO hD hNo htab hl hret
  have hl : lv_has ls 4 [(0, .ref (AD 0)), (1, .int (x)), (2, .ref (ou))] := hl
  have S : CallFix p m c cL_copyLetter 4 s args wsL_copyLetter RL := ⟨hx, hb, hml, hown, hts⟩
  have hAo : ∀ k, k < 87 → ¬ AD k = ou := dk_no hNo
  refine lv_aload_n hx hb dL_copyLetter_0 rfl (lv_at hl 2 rfl) ?_
  refine lv_iconst (v := 0) hx hb dL_copyLetter_1 (by decide +kernel) ?_
  refine lv_aload_n hx hb dL_copyLetter_2 rfl (lv_at hl 0 rfl) ?_
  refine lv_iload_n hx hb dL_copyLetter_3 rfl (lv_at hl 1 rfl) ?_
  refine lx_V (E := "java/lang/IndexOutOfBoundsException") (As := [.int (x)]) (rest := [.int (0), .ref (ou)]) S (c_X2_copyLetter_x l hlt g AD LL EE LN lc ec hlc hec hLL hEE x hxb) (cwV 1 hts gL_copyLetter_X2_copyLetter rfl rfl rfl (by decide +kernel) ⟨Nat.le_of_ble_eq_true rfl, Nat.le_of_ble_eq_true rfl⟩) hK hZ (va_recv hK.1 hP (ci := 2) (q0 := 0) rfl dk_me) hP rfl hl.1 rfl (Nat.le_of_ble_eq_true rfl) dL_copyLetter_4 ⟨Nat.le_of_ble_eq_true rfl, Nat.le_of_ble_eq_true rfl⟩ [] ⟨0, 9, 12, 19⟩ [⟨0, 9, 15, 13⟩] htab (fun _ h9 => absurd h9 List.not_mem_nil) (by decide) (by decide) (hts (.classLink RL 19 "java/lang/IndexOutOfBoundsException") (by decide +kernel)) (List.mem_of_getElem? (i := 0) rfl) (fun H qx hz1 hk1 => ?_)
  have hP := dk_old hP hk1
  have hO := out_old hO hk1
  have hS : va_S (lA (wsD g AD LL EE lc ec) ou) s.heap H [] := ⟨hz1, fun q h1 _ => hk1 q h1, fun q h => nomatch h⟩
  refine lv_astore_n (lv' := [(3, .ref (qx)), (0, .ref (AD 0)), (1, .int (x)), (2, .ref (ou))]) hx hb dL_copyLetter_12 rfl hl (by decide) rfl (fun ls hl => ?_)
  refine lv_iconst (v := 1) hx hb dL_copyLetter_13 (by decide +kernel) ?_
  exact hret _ _ _ _ hP hO hS dL_copyLetter_14

set_option maxHeartbeats 4000000 in
set_option maxRecDepth 100000 in
/-- the law's own copyLetter_s -/
theorem c_L_copyLetter_s (l : Launch) (hlt : l.stackTraces = false) (g : gT) (AD : Nat → Nat) (LL : Nat → ltT) (EE : Nat → evT) (LN : Nat → Nat) (lc ec : Nat) (hlc : lc ≤ 12) (hec : ec ≤ 24) (hLL : ∀ i, i < 12 → (LL i).2.2 ≤ 40) (hEE : ∀ q, q < ec → (EE q).1 = nI (LN q) ∧ LN q < lc ∧ (EE q).2.2.1 ≤ 40 ∧ (EE q).2.2.2.1 ≤ 8) (k : Nat) (hk : k < lc) (hl1 : lc = 12) (ou : Nat) (v : Int64) : lM g l yL_copyLetter wsL_copyLetter { frames := 8, cells := 1, slots := 6, locals := 125 } [.ref (AD 0), .int (nI k), .ref (ou)] (wsD g AD LL EE lc ec) ou v 2 (wsD g AD LL EE lc ec) (v) := by
  refine lr_of (cc := cL_copyLetter) (maxL := 4) (by decide) rfl (Nat.le_of_ble_eq_true rfl) ?_
  intro p e s m args below meth c ls Q hx hb hml hts hown hK hZ hP hO hD hNo htab hl hret
  have hl : lv_has ls 4 [(0, .ref (AD 0)), (1, .int (nI k)), (2, .ref (ou))] := hl
  have S : CallFix p m c cL_copyLetter 4 s args wsL_copyLetter RL := ⟨hx, hb, hml, hown, hts⟩
  have hAo : ∀ k, k < 87 → ¬ AD k = ou := dk_no hNo
  refine lv_aload_n hx hb dL_copyLetter_0 rfl (lv_at hl 2 rfl) ?_
  refine lv_iconst (v := 0) hx hb dL_copyLetter_1 (by decide +kernel) ?_
  refine lv_aload_n hx hb dL_copyLetter_2 rfl (lv_at hl 0 rfl) ?_
  refine lv_iload_n hx hb dL_copyLetter_3 rfl (lv_at hl 1 rfl) ?_
  refine lx_V (E := "java/lang/IllegalStateException") (As := [.int (nI k)]) (rest := [.int (0), .ref (ou)]) S (c_X2_copyLetter_s l hlt g AD LL EE LN lc ec hlc hec hLL hEE k hk hl1) (cwV 1 hts gL_copyLetter_X2_copyLetter rfl rfl rfl (by decide +kernel) ⟨Nat.le_of_ble_eq_true rfl, Nat.le_of_ble_eq_true rfl⟩) hK hZ (va_recv hK.1 hP (ci := 2) (q0 := 0) rfl dk_me) hP rfl hl.1 rfl (Nat.le_of_ble_eq_true rfl) dL_copyLetter_4 ⟨Nat.le_of_ble_eq_true rfl, Nat.le_of_ble_eq_true rfl⟩ [⟨0, 9, 12, 19⟩] ⟨0, 9, 15, 13⟩ [] htab (List.forall_mem_cons.mpr ⟨Or.inr ⟨by decide, "java/lang/IndexOutOfBoundsException", hts (.classLink RL 19 "java/lang/IndexOutOfBoundsException") (by decide +kernel), hK.2.2.2.2.2.2 ("java/lang/IllegalStateException", "java/lang/IndexOutOfBoundsException") (List.mem_of_getElem? (i := 1) rfl)⟩, fun _ h9 => absurd h9 List.not_mem_nil⟩) (by decide) (by decide) (hts (.classLink RL 13 "java/lang/IllegalStateException") (by decide +kernel)) (List.mem_of_getElem? (i := 2) rfl) (fun H qx hz1 hk1 => ?_)
  have hP := dk_old hP hk1
  have hO := out_old hO hk1
  have hS : va_S (lA (wsD g AD LL EE lc ec) ou) s.heap H [] := ⟨hz1, fun q h1 _ => hk1 q h1, fun q h => nomatch h⟩
  refine lv_astore_n (lv' := [(3, .ref (qx)), (0, .ref (AD 0)), (1, .int (nI k)), (2, .ref (ou))]) hx hb dL_copyLetter_15 rfl hl (by decide) rfl (fun ls hl => ?_)
  refine lv_iconst (v := 2) hx hb dL_copyLetter_16 (by decide +kernel) ?_
  exact hret _ _ _ _ hP hO hS dL_copyLetter_17

set_option maxHeartbeats 4000000 in
set_option maxRecDepth 100000 in
/-- the law's own write -/
theorem c_L_write (l : Launch) (g : gT) (AD : Nat → Nat) (LL : Nat → ltT) (EE : Nat → evT) (LN : Nat → Nat) (lc ec : Nat) (hlc : lc ≤ 12) (hec : ec ≤ 24) (hLL : ∀ i, i < 12 → (LL i).2.2 ≤ 40) (hEE : ∀ q, q < ec → (EE q).1 = nI (LN q) ∧ LN q < lc ∧ (EE q).2.2.1 ≤ 40 ∧ (EE q).2.2.2.1 ≤ 8) (k : Nat) (hk : k < lc) (x : Int32) (hs : (decide (0 ≤ x) && decide (x ≤ 29)) = true) (hn1 : (LL k).2.2 < 40) (ou : Nat) (v : Int64) : lM g l yL_write wsL_write { frames := 8, cells := 1, slots := 6, locals := 126 } [.ref (AD 0), .int (nI k), .int (x), .ref (ou)] (wsD g AD LL EE lc ec) ou v 0 (wsD g AD (fup LL k ((upd (LL k).1 (LL k).2.2 x, (LL k).2.1, (LL k).2.2 + 1) : ltT)) EE lc ec) ((nI ((LL k).2.2 + 1)).toInt64) := by
  refine lr_of (cc := cL_write) (maxL := 5) (by decide) rfl (Nat.le_of_ble_eq_true rfl) ?_
  intro p e s m args below meth c ls Q hx hb hml hts hown hK hZ hP hO hD hNo htab hl hret
  have hl : lv_has ls 5 [(0, .ref (AD 0)), (1, .int (nI k)), (2, .int (x)), (3, .ref (ou))] := hl
  have S : CallFix p m c cL_write 5 s args wsL_write RL := ⟨hx, hb, hml, hown, hts⟩
  have hAo : ∀ k, k < 87 → ¬ AD k = ou := dk_no hNo
  refine W.widen (Nat.zero_le 1) (Nat.zero_le 6) ?_
  refine lv_aload_n hx hb dL_write_0 rfl (lv_at hl 3 rfl) ?_
  refine lv_iconst (v := 0) hx hb dL_write_1 (by decide +kernel) ?_
  refine lv_aload_n hx hb dL_write_2 rfl (lv_at hl 0 rfl) ?_
  refine lv_iload_n hx hb dL_write_3 rfl (lv_at hl 1 rfl) ?_
  refine lv_iload_n hx hb dL_write_4 rfl (lv_at hl 2 rfl) ?_
  obtain ⟨H, eH⟩ : ∃ H : Heap, H = s.heap := ⟨_, rfl⟩
  have hS : va_S (lA (wsD g AD LL EE lc ec) ou) s.heap H [] := by rw [eH]; exact va_S.rf
  rw [← eH] at hP hO
  rw [← eH]
  refine w_V (As := [.int (nI k), .int (x)]) (rest := [.int (0), .ref (ou)]) S (c_X2_write l g AD LL EE LN lc ec hlc hec hLL hEE k hk x hs hn1) (cwV 2 hts gL_write_X2_write rfl rfl rfl (by decide +kernel) ⟨Nat.le_of_ble_eq_true rfl, Nat.le_of_ble_eq_true rfl⟩) hK (va_recv hK.1 hP (ci := 2) (q0 := 0) rfl dk_me) hP hD hS (fun q h9 => Or.inl h9) rfl hl.1 rfl (Nat.le_of_ble_eq_true rfl) dL_write_5 ⟨Nat.le_of_ble_eq_true rfl, Nat.le_of_ble_eq_true rfl⟩ (fun H locs hP hz1 hk1 hS => ?_)
  have hO := out_kept hO hk1 hNo
  refine lv_i2l (v := (nI ((LL k).2.2 + 1)).toInt64) hx hb dL_write_8 rfl ?_
  refine st_J (o := ou) (cA := gJ g) (v := v) (x := (nI ((LL k).2.2 + 1)).toInt64) (A := lA (wsD g AD LL EE lc ec) ou) hx hb hK.1 hO (Or.inr rfl) hS 3 rfl dL_write_9 (fun H locs hO hk2 hS => ?_)
  have hP := dk_keep hP hk2 hAo
  refine lv_goto (tgt := 25) hx hb dL_write_10 (by decide) ?_
  refine lv_iconst (v := 0) hx hb dL_write_25 (by decide +kernel) ?_
  exact hret _ _ _ _ hP hO hS dL_write_26

set_option maxHeartbeats 4000000 in
set_option maxRecDepth 100000 in
/-- the law's own write_x -/
theorem c_L_write_x (l : Launch) (hlt : l.stackTraces = false) (g : gT) (AD : Nat → Nat) (LL : Nat → ltT) (EE : Nat → evT) (LN : Nat → Nat) (lc ec : Nat) (hlc : lc ≤ 12) (hec : ec ≤ 24) (hLL : ∀ i, i < 12 → (LL i).2.2 ≤ 40) (hEE : ∀ q, q < ec → (EE q).1 = nI (LN q) ∧ LN q < lc ∧ (EE q).2.2.1 ≤ 40 ∧ (EE q).2.2.2.1 ≤ 8) (x : Int32) (hxb : inB x lc = false) (y : Int32) (ou : Nat) (v : Int64) : lM g l yL_write wsL_write { frames := 8, cells := 1, slots := 6, locals := 126 } [.ref (AD 0), .int (x), .int (y), .ref (ou)] (wsD g AD LL EE lc ec) ou v 1 (wsD g AD LL EE lc ec) (v) := by
  refine lr_of (cc := cL_write) (maxL := 5) (by decide) rfl (Nat.le_of_ble_eq_true rfl) ?_
  intro p e s m args below meth c ls Q hx hb hml hts hown hK hZ hP hO hD hNo htab hl hret
  have hl : lv_has ls 5 [(0, .ref (AD 0)), (1, .int (x)), (2, .int (y)), (3, .ref (ou))] := hl
  have S : CallFix p m c cL_write 5 s args wsL_write RL := ⟨hx, hb, hml, hown, hts⟩
  have hAo : ∀ k, k < 87 → ¬ AD k = ou := dk_no hNo
  refine lv_aload_n hx hb dL_write_0 rfl (lv_at hl 3 rfl) ?_
  refine lv_iconst (v := 0) hx hb dL_write_1 (by decide +kernel) ?_
  refine lv_aload_n hx hb dL_write_2 rfl (lv_at hl 0 rfl) ?_
  refine lv_iload_n hx hb dL_write_3 rfl (lv_at hl 1 rfl) ?_
  refine lv_iload_n hx hb dL_write_4 rfl (lv_at hl 2 rfl) ?_
  refine lx_V (E := "java/lang/IndexOutOfBoundsException") (As := [.int (x), .int (y)]) (rest := [.int (0), .ref (ou)]) S (c_X2_write_x l hlt g AD LL EE LN lc ec hlc hec hLL hEE x hxb y) (cwV 2 hts gL_write_X2_write rfl rfl rfl (by decide +kernel) ⟨Nat.le_of_ble_eq_true rfl, Nat.le_of_ble_eq_true rfl⟩) hK hZ (va_recv hK.1 hP (ci := 2) (q0 := 0) rfl dk_me) hP rfl hl.1 rfl (Nat.le_of_ble_eq_true rfl) dL_write_5 ⟨Nat.le_of_ble_eq_true rfl, Nat.le_of_ble_eq_true rfl⟩ [] ⟨0, 10, 13, 19⟩ [⟨0, 10, 17, 25⟩, ⟨0, 10, 21, 13⟩] htab (fun _ h9 => absurd h9 List.not_mem_nil) (by decide) (by decide) (hts (.classLink RL 19 "java/lang/IndexOutOfBoundsException") (by decide +kernel)) (List.mem_of_getElem? (i := 0) rfl) (fun H qx hz1 hk1 => ?_)
  have hP := dk_old hP hk1
  have hO := out_old hO hk1
  have hS : va_S (lA (wsD g AD LL EE lc ec) ou) s.heap H [] := ⟨hz1, fun q h1 _ => hk1 q h1, fun q h => nomatch h⟩
  refine lv_astore (lv' := [(4, .ref (qx)), (0, .ref (AD 0)), (1, .int (x)), (2, .int (y)), (3, .ref (ou))]) hx hb dL_write_13 hl (by decide) rfl (fun ls hl => ?_)
  refine lv_iconst (v := 1) hx hb dL_write_15 (by decide +kernel) ?_
  exact hret _ _ _ _ hP hO hS dL_write_16

set_option maxHeartbeats 4000000 in
set_option maxRecDepth 100000 in
/-- the law's own write_a -/
theorem c_L_write_a (l : Launch) (hlt : l.stackTraces = false) (g : gT) (AD : Nat → Nat) (LL : Nat → ltT) (EE : Nat → evT) (LN : Nat → Nat) (lc ec : Nat) (hlc : lc ≤ 12) (hec : ec ≤ 24) (hLL : ∀ i, i < 12 → (LL i).2.2 ≤ 40) (hEE : ∀ q, q < ec → (EE q).1 = nI (LN q) ∧ LN q < lc ∧ (EE q).2.2.1 ≤ 40 ∧ (EE q).2.2.2.1 ≤ 8) (k : Nat) (hk : k < lc) (x : Int32) (hs : (decide (0 ≤ x) && decide (x ≤ 29)) = false) (ou : Nat) (v : Int64) : lM g l yL_write wsL_write { frames := 8, cells := 1, slots := 6, locals := 126 } [.ref (AD 0), .int (nI k), .int (x), .ref (ou)] (wsD g AD LL EE lc ec) ou v 2 (wsD g AD LL EE lc ec) (v) := by
  refine lr_of (cc := cL_write) (maxL := 5) (by decide) rfl (Nat.le_of_ble_eq_true rfl) ?_
  intro p e s m args below meth c ls Q hx hb hml hts hown hK hZ hP hO hD hNo htab hl hret
  have hl : lv_has ls 5 [(0, .ref (AD 0)), (1, .int (nI k)), (2, .int (x)), (3, .ref (ou))] := hl
  have S : CallFix p m c cL_write 5 s args wsL_write RL := ⟨hx, hb, hml, hown, hts⟩
  have hAo : ∀ k, k < 87 → ¬ AD k = ou := dk_no hNo
  refine lv_aload_n hx hb dL_write_0 rfl (lv_at hl 3 rfl) ?_
  refine lv_iconst (v := 0) hx hb dL_write_1 (by decide +kernel) ?_
  refine lv_aload_n hx hb dL_write_2 rfl (lv_at hl 0 rfl) ?_
  refine lv_iload_n hx hb dL_write_3 rfl (lv_at hl 1 rfl) ?_
  refine lv_iload_n hx hb dL_write_4 rfl (lv_at hl 2 rfl) ?_
  refine lx_V (E := "java/lang/IllegalArgumentException") (As := [.int (nI k), .int (x)]) (rest := [.int (0), .ref (ou)]) S (c_X2_write_a l hlt g AD LL EE LN lc ec hlc hec hLL hEE k hk x hs) (cwV 2 hts gL_write_X2_write rfl rfl rfl (by decide +kernel) ⟨Nat.le_of_ble_eq_true rfl, Nat.le_of_ble_eq_true rfl⟩) hK hZ (va_recv hK.1 hP (ci := 2) (q0 := 0) rfl dk_me) hP rfl hl.1 rfl (Nat.le_of_ble_eq_true rfl) dL_write_5 ⟨Nat.le_of_ble_eq_true rfl, Nat.le_of_ble_eq_true rfl⟩ [⟨0, 10, 13, 19⟩] ⟨0, 10, 17, 25⟩ [⟨0, 10, 21, 13⟩] htab (List.forall_mem_cons.mpr ⟨Or.inr ⟨by decide, "java/lang/IndexOutOfBoundsException", hts (.classLink RL 19 "java/lang/IndexOutOfBoundsException") (by decide +kernel), hK.2.2.2.2.2.2 ("java/lang/IllegalArgumentException", "java/lang/IndexOutOfBoundsException") (List.mem_of_getElem? (i := 0) rfl)⟩, fun _ h9 => absurd h9 List.not_mem_nil⟩) (by decide) (by decide) (hts (.classLink RL 25 "java/lang/IllegalArgumentException") (by decide +kernel)) (List.mem_of_getElem? (i := 1) rfl) (fun H qx hz1 hk1 => ?_)
  have hP := dk_old hP hk1
  have hO := out_old hO hk1
  have hS : va_S (lA (wsD g AD LL EE lc ec) ou) s.heap H [] := ⟨hz1, fun q h1 _ => hk1 q h1, fun q h => nomatch h⟩
  refine lv_astore (lv' := [(4, .ref (qx)), (0, .ref (AD 0)), (1, .int (nI k)), (2, .int (x)), (3, .ref (ou))]) hx hb dL_write_17 hl (by decide) rfl (fun ls hl => ?_)
  refine lv_iconst (v := 2) hx hb dL_write_19 (by decide +kernel) ?_
  exact hret _ _ _ _ hP hO hS dL_write_20

set_option maxHeartbeats 4000000 in
set_option maxRecDepth 100000 in
/-- the law's own write_s -/
theorem c_L_write_s (l : Launch) (hlt : l.stackTraces = false) (g : gT) (AD : Nat → Nat) (LL : Nat → ltT) (EE : Nat → evT) (LN : Nat → Nat) (lc ec : Nat) (hlc : lc ≤ 12) (hec : ec ≤ 24) (hLL : ∀ i, i < 12 → (LL i).2.2 ≤ 40) (hEE : ∀ q, q < ec → (EE q).1 = nI (LN q) ∧ LN q < lc ∧ (EE q).2.2.1 ≤ 40 ∧ (EE q).2.2.2.1 ≤ 8) (k : Nat) (hk : k < lc) (x : Int32) (hs : (decide (0 ≤ x) && decide (x ≤ 29)) = true) (hn1 : (LL k).2.2 = 40) (ou : Nat) (v : Int64) : lM g l yL_write wsL_write { frames := 8, cells := 1, slots := 6, locals := 126 } [.ref (AD 0), .int (nI k), .int (x), .ref (ou)] (wsD g AD LL EE lc ec) ou v 3 (wsD g AD LL EE lc ec) (v) := by
  refine lr_of (cc := cL_write) (maxL := 5) (by decide) rfl (Nat.le_of_ble_eq_true rfl) ?_
  intro p e s m args below meth c ls Q hx hb hml hts hown hK hZ hP hO hD hNo htab hl hret
  have hl : lv_has ls 5 [(0, .ref (AD 0)), (1, .int (nI k)), (2, .int (x)), (3, .ref (ou))] := hl
  have S : CallFix p m c cL_write 5 s args wsL_write RL := ⟨hx, hb, hml, hown, hts⟩
  have hAo : ∀ k, k < 87 → ¬ AD k = ou := dk_no hNo
  refine lv_aload_n hx hb dL_write_0 rfl (lv_at hl 3 rfl) ?_
  refine lv_iconst (v := 0) hx hb dL_write_1 (by decide +kernel) ?_
  refine lv_aload_n hx hb dL_write_2 rfl (lv_at hl 0 rfl) ?_
  refine lv_iload_n hx hb dL_write_3 rfl (lv_at hl 1 rfl) ?_
  refine lv_iload_n hx hb dL_write_4 rfl (lv_at hl 2 rfl) ?_
  refine lx_V (E := "java/lang/IllegalStateException") (As := [.int (nI k), .int (x)]) (rest := [.int (0), .ref (ou)]) S (c_X2_write_s l hlt g AD LL EE LN lc ec hlc hec hLL hEE k hk x hs hn1) (cwV 2 hts gL_write_X2_write rfl rfl rfl (by decide +kernel) ⟨Nat.le_of_ble_eq_true rfl, Nat.le_of_ble_eq_true rfl⟩) hK hZ (va_recv hK.1 hP (ci := 2) (q0 := 0) rfl dk_me) hP rfl hl.1 rfl (Nat.le_of_ble_eq_true rfl) dL_write_5 ⟨Nat.le_of_ble_eq_true rfl, Nat.le_of_ble_eq_true rfl⟩ [⟨0, 10, 13, 19⟩, ⟨0, 10, 17, 25⟩] ⟨0, 10, 21, 13⟩ [] htab (List.forall_mem_cons.mpr ⟨Or.inr ⟨by decide, "java/lang/IndexOutOfBoundsException", hts (.classLink RL 19 "java/lang/IndexOutOfBoundsException") (by decide +kernel), hK.2.2.2.2.2.2 ("java/lang/IllegalStateException", "java/lang/IndexOutOfBoundsException") (List.mem_of_getElem? (i := 1) rfl)⟩, List.forall_mem_cons.mpr ⟨Or.inr ⟨by decide, "java/lang/IllegalArgumentException", hts (.classLink RL 25 "java/lang/IllegalArgumentException") (by decide +kernel), hK.2.2.2.2.2.2 ("java/lang/IllegalStateException", "java/lang/IllegalArgumentException") (List.mem_of_getElem? (i := 2) rfl)⟩, fun _ h9 => absurd h9 List.not_mem_nil⟩⟩) (by decide) (by decide) (hts (.classLink RL 13 "java/lang/IllegalStateException") (by decide +kernel)) (List.mem_of_getElem? (i := 2) rfl) (fun H qx hz1 hk1 => ?_)
  have hP := dk_old hP hk1
  have hO := out_old hO hk1
  have hS : va_S (lA (wsD g AD LL EE lc ec) ou) s.heap H [] := ⟨hz1, fun q h1 _ => hk1 q h1, fun q h => nomatch h⟩
  refine lv_astore (lv' := [(4, .ref (qx)), (0, .ref (AD 0)), (1, .int (nI k)), (2, .int (x)), (3, .ref (ou))]) hx hb dL_write_21 hl (by decide) rfl (fun ls hl => ?_)
  refine lv_iconst (v := 3) hx hb dL_write_23 (by decide +kernel) ?_
  exact hret _ _ _ _ hP hO hS dL_write_24

set_option maxHeartbeats 4000000 in
set_option maxRecDepth 100000 in
/-- the law's own erase -/
theorem c_L_erase (l : Launch) (g : gT) (AD : Nat → Nat) (LL : Nat → ltT) (EE : Nat → evT) (LN : Nat → Nat) (lc ec : Nat) (hlc : lc ≤ 12) (hec : ec ≤ 24) (hLL : ∀ i, i < 12 → (LL i).2.2 ≤ 40) (hEE : ∀ q, q < ec → (EE q).1 = nI (LN q) ∧ LN q < lc ∧ (EE q).2.2.1 ≤ 40 ∧ (EE q).2.2.2.1 ≤ 8) (k : Nat) (hk : k < lc) (hn1 : 0 < (LL k).2.2) (ou : Nat) (v : Int64) : lM g l yL_erase wsL_erase { frames := 8, cells := 1, slots := 6, locals := 125 } [.ref (AD 0), .int (nI k), .ref (ou)] (wsD g AD LL EE lc ec) ou v 0 (wsD g AD (fup LL k (((LL k).1, (LL k).2.1, (LL k).2.2 - 1) : ltT)) EE lc ec) (((LL k).1 ((LL k).2.2 - 1)).toInt64) := by
  refine lr_of (cc := cL_erase) (maxL := 4) (by decide) rfl (Nat.le_of_ble_eq_true rfl) ?_
  intro p e s m args below meth c ls Q hx hb hml hts hown hK hZ hP hO hD hNo htab hl hret
  have hl : lv_has ls 4 [(0, .ref (AD 0)), (1, .int (nI k)), (2, .ref (ou))] := hl
  have S : CallFix p m c cL_erase 4 s args wsL_erase RL := ⟨hx, hb, hml, hown, hts⟩
  have hAo : ∀ k, k < 87 → ¬ AD k = ou := dk_no hNo
  refine W.widen (Nat.zero_le 1) (Nat.zero_le 6) ?_
  refine lv_aload_n hx hb dL_erase_0 rfl (lv_at hl 2 rfl) ?_
  refine lv_iconst (v := 0) hx hb dL_erase_1 (by decide +kernel) ?_
  refine lv_aload_n hx hb dL_erase_2 rfl (lv_at hl 0 rfl) ?_
  refine lv_iload_n hx hb dL_erase_3 rfl (lv_at hl 1 rfl) ?_
  obtain ⟨H, eH⟩ : ∃ H : Heap, H = s.heap := ⟨_, rfl⟩
  have hS : va_S (lA (wsD g AD LL EE lc ec) ou) s.heap H [] := by rw [eH]; exact va_S.rf
  rw [← eH] at hP hO
  rw [← eH]
  refine w_V (As := [.int (nI k)]) (rest := [.int (0), .ref (ou)]) S (c_X2_erase l g AD LL EE LN lc ec hlc hec hLL hEE k hk hn1) (cwV 1 hts gL_erase_X2_erase rfl rfl rfl (by decide +kernel) ⟨Nat.le_of_ble_eq_true rfl, Nat.le_of_ble_eq_true rfl⟩) hK (va_recv hK.1 hP (ci := 2) (q0 := 0) rfl dk_me) hP hD hS (fun q h9 => Or.inl h9) rfl hl.1 rfl (Nat.le_of_ble_eq_true rfl) dL_erase_4 ⟨Nat.le_of_ble_eq_true rfl, Nat.le_of_ble_eq_true rfl⟩ (fun H locs hP hz1 hk1 hS => ?_)
  have hO := out_kept hO hk1 hNo
  refine lv_i2l (v := ((LL k).1 ((LL k).2.2 - 1)).toInt64) hx hb dL_erase_7 rfl ?_
  refine st_J (o := ou) (cA := gJ g) (v := v) (x := ((LL k).1 ((LL k).2.2 - 1)).toInt64) (A := lA (wsD g AD LL EE lc ec) ou) hx hb hK.1 hO (Or.inr rfl) hS 3 rfl dL_erase_8 (fun H locs hO hk2 hS => ?_)
  have hP := dk_keep hP hk2 hAo
  refine lv_goto (tgt := 18) hx hb dL_erase_9 (by decide) ?_
  refine lv_iconst (v := 0) hx hb dL_erase_18 (by decide +kernel) ?_
  exact hret _ _ _ _ hP hO hS dL_erase_19

set_option maxHeartbeats 4000000 in
set_option maxRecDepth 100000 in
/-- the law's own erase_x -/
theorem c_L_erase_x (l : Launch) (hlt : l.stackTraces = false) (g : gT) (AD : Nat → Nat) (LL : Nat → ltT) (EE : Nat → evT) (LN : Nat → Nat) (lc ec : Nat) (hlc : lc ≤ 12) (hec : ec ≤ 24) (hLL : ∀ i, i < 12 → (LL i).2.2 ≤ 40) (hEE : ∀ q, q < ec → (EE q).1 = nI (LN q) ∧ LN q < lc ∧ (EE q).2.2.1 ≤ 40 ∧ (EE q).2.2.2.1 ≤ 8) (x : Int32) (hxb : inB x lc = false) (ou : Nat) (v : Int64) : lM g l yL_erase wsL_erase { frames := 8, cells := 1, slots := 6, locals := 125 } [.ref (AD 0), .int (x), .ref (ou)] (wsD g AD LL EE lc ec) ou v 1 (wsD g AD LL EE lc ec) (v) := by
  refine lr_of (cc := cL_erase) (maxL := 4) (by decide) rfl (Nat.le_of_ble_eq_true rfl) ?_
  intro p e s m args below meth c ls Q hx hb hml hts hown hK hZ hP hO hD hNo htab hl hret
  have hl : lv_has ls 4 [(0, .ref (AD 0)), (1, .int (x)), (2, .ref (ou))] := hl
  have S : CallFix p m c cL_erase 4 s args wsL_erase RL := ⟨hx, hb, hml, hown, hts⟩
  have hAo : ∀ k, k < 87 → ¬ AD k = ou := dk_no hNo
  refine lv_aload_n hx hb dL_erase_0 rfl (lv_at hl 2 rfl) ?_
  refine lv_iconst (v := 0) hx hb dL_erase_1 (by decide +kernel) ?_
  refine lv_aload_n hx hb dL_erase_2 rfl (lv_at hl 0 rfl) ?_
  refine lv_iload_n hx hb dL_erase_3 rfl (lv_at hl 1 rfl) ?_
  refine lx_V (E := "java/lang/IndexOutOfBoundsException") (As := [.int (x)]) (rest := [.int (0), .ref (ou)]) S (c_X2_erase_x l hlt g AD LL EE LN lc ec hlc hec hLL hEE x hxb) (cwV 1 hts gL_erase_X2_erase rfl rfl rfl (by decide +kernel) ⟨Nat.le_of_ble_eq_true rfl, Nat.le_of_ble_eq_true rfl⟩) hK hZ (va_recv hK.1 hP (ci := 2) (q0 := 0) rfl dk_me) hP rfl hl.1 rfl (Nat.le_of_ble_eq_true rfl) dL_erase_4 ⟨Nat.le_of_ble_eq_true rfl, Nat.le_of_ble_eq_true rfl⟩ [] ⟨0, 9, 12, 19⟩ [⟨0, 9, 15, 13⟩] htab (fun _ h9 => absurd h9 List.not_mem_nil) (by decide) (by decide) (hts (.classLink RL 19 "java/lang/IndexOutOfBoundsException") (by decide +kernel)) (List.mem_of_getElem? (i := 0) rfl) (fun H qx hz1 hk1 => ?_)
  have hP := dk_old hP hk1
  have hO := out_old hO hk1
  have hS : va_S (lA (wsD g AD LL EE lc ec) ou) s.heap H [] := ⟨hz1, fun q h1 _ => hk1 q h1, fun q h => nomatch h⟩
  refine lv_astore_n (lv' := [(3, .ref (qx)), (0, .ref (AD 0)), (1, .int (x)), (2, .ref (ou))]) hx hb dL_erase_12 rfl hl (by decide) rfl (fun ls hl => ?_)
  refine lv_iconst (v := 1) hx hb dL_erase_13 (by decide +kernel) ?_
  exact hret _ _ _ _ hP hO hS dL_erase_14

set_option maxHeartbeats 4000000 in
set_option maxRecDepth 100000 in
/-- the law's own erase_s -/
theorem c_L_erase_s (l : Launch) (hlt : l.stackTraces = false) (g : gT) (AD : Nat → Nat) (LL : Nat → ltT) (EE : Nat → evT) (LN : Nat → Nat) (lc ec : Nat) (hlc : lc ≤ 12) (hec : ec ≤ 24) (hLL : ∀ i, i < 12 → (LL i).2.2 ≤ 40) (hEE : ∀ q, q < ec → (EE q).1 = nI (LN q) ∧ LN q < lc ∧ (EE q).2.2.1 ≤ 40 ∧ (EE q).2.2.2.1 ≤ 8) (k : Nat) (hk : k < lc) (hn1 : (LL k).2.2 = 0) (ou : Nat) (v : Int64) : lM g l yL_erase wsL_erase { frames := 8, cells := 1, slots := 6, locals := 125 } [.ref (AD 0), .int (nI k), .ref (ou)] (wsD g AD LL EE lc ec) ou v 2 (wsD g AD LL EE lc ec) (v) := by
  refine lr_of (cc := cL_erase) (maxL := 4) (by decide) rfl (Nat.le_of_ble_eq_true rfl) ?_
  intro p e s m args below meth c ls Q hx hb hml hts hown hK hZ hP hO hD hNo htab hl hret
  have hl : lv_has ls 4 [(0, .ref (AD 0)), (1, .int (nI k)), (2, .ref (ou))] := hl
  have S : CallFix p m c cL_erase 4 s args wsL_erase RL := ⟨hx, hb, hml, hown, hts⟩
  have hAo : ∀ k, k < 87 → ¬ AD k = ou := dk_no hNo
  refine lv_aload_n hx hb dL_erase_0 rfl (lv_at hl 2 rfl) ?_
  refine lv_iconst (v := 0) hx hb dL_erase_1 (by decide +kernel) ?_
  refine lv_aload_n hx hb dL_erase_2 rfl (lv_at hl 0 rfl) ?_
  refine lv_iload_n hx hb dL_erase_3 rfl (lv_at hl 1 rfl) ?_
  refine lx_V (E := "java/lang/IllegalStateException") (As := [.int (nI k)]) (rest := [.int (0), .ref (ou)]) S (c_X2_erase_s l hlt g AD LL EE LN lc ec hlc hec hLL hEE k hk hn1) (cwV 1 hts gL_erase_X2_erase rfl rfl rfl (by decide +kernel) ⟨Nat.le_of_ble_eq_true rfl, Nat.le_of_ble_eq_true rfl⟩) hK hZ (va_recv hK.1 hP (ci := 2) (q0 := 0) rfl dk_me) hP rfl hl.1 rfl (Nat.le_of_ble_eq_true rfl) dL_erase_4 ⟨Nat.le_of_ble_eq_true rfl, Nat.le_of_ble_eq_true rfl⟩ [⟨0, 9, 12, 19⟩] ⟨0, 9, 15, 13⟩ [] htab (List.forall_mem_cons.mpr ⟨Or.inr ⟨by decide, "java/lang/IndexOutOfBoundsException", hts (.classLink RL 19 "java/lang/IndexOutOfBoundsException") (by decide +kernel), hK.2.2.2.2.2.2 ("java/lang/IllegalStateException", "java/lang/IndexOutOfBoundsException") (List.mem_of_getElem? (i := 1) rfl)⟩, fun _ h9 => absurd h9 List.not_mem_nil⟩) (by decide) (by decide) (hts (.classLink RL 13 "java/lang/IllegalStateException") (by decide +kernel)) (List.mem_of_getElem? (i := 2) rfl) (fun H qx hz1 hk1 => ?_)
  have hP := dk_old hP hk1
  have hO := out_old hO hk1
  have hS : va_S (lA (wsD g AD LL EE lc ec) ou) s.heap H [] := ⟨hz1, fun q h1 _ => hk1 q h1, fun q h => nomatch h⟩
  refine lv_astore_n (lv' := [(3, .ref (qx)), (0, .ref (AD 0)), (1, .int (nI k)), (2, .ref (ou))]) hx hb dL_erase_15 rfl hl (by decide) rfl (fun ls hl => ?_)
  refine lv_iconst (v := 2) hx hb dL_erase_16 (by decide +kernel) ?_
  exact hret _ _ _ _ hP hO hS dL_erase_17

set_option maxHeartbeats 4000000 in
set_option maxRecDepth 100000 in
/-- the law's own forge -/
theorem c_L_forge (l : Launch) (g : gT) (AD : Nat → Nat) (LL : Nat → ltT) (EE : Nat → evT) (LN : Nat → Nat) (lc ec : Nat) (hlc : lc ≤ 12) (hec : ec ≤ 24) (hLL : ∀ i, i < 12 → (LL i).2.2 ≤ 40) (hEE : ∀ q, q < ec → (EE q).1 = nI (LN q) ∧ LN q < lc ∧ (EE q).2.2.1 ≤ 40 ∧ (EE q).2.2.2.1 ≤ 8) (k : Nat) (hk : k < lc) (j : Nat) (hj : j < (LL k).2.2) (hz : ¬ (LL k).1 j = 27) (ou : Nat) (v : Int64) : lM g l yL_forge wsL_forge { frames := 9, cells := 1, slots := 6, locals := 149 } [.ref (AD 0), .int (nI k), .int (nI j), .ref (ou)] (wsD g AD LL EE lc ec) ou v 0 (wsD g AD (fup LL k ((upd (LL k).1 j 27, (LL k).2.1, (LL k).2.2) : ltT)) EE lc ec) (((LL k).1 j).toInt64) := by
  refine lr_of (cc := cL_forge) (maxL := 5) (by decide) rfl (Nat.le_of_ble_eq_true rfl) ?_
  intro p e s m args below meth c ls Q hx hb hml hts hown hK hZ hP hO hD hNo htab hl hret
  have hl : lv_has ls 5 [(0, .ref (AD 0)), (1, .int (nI k)), (2, .int (nI j)), (3, .ref (ou))] := hl
  have S : CallFix p m c cL_forge 5 s args wsL_forge RL := ⟨hx, hb, hml, hown, hts⟩
  have hAo : ∀ k, k < 87 → ¬ AD k = ou := dk_no hNo
  refine W.widen (Nat.zero_le 1) (Nat.zero_le 6) ?_
  refine lv_aload_n hx hb dL_forge_0 rfl (lv_at hl 3 rfl) ?_
  refine lv_iconst (v := 0) hx hb dL_forge_1 (by decide +kernel) ?_
  refine lv_aload_n hx hb dL_forge_2 rfl (lv_at hl 0 rfl) ?_
  refine lv_iload_n hx hb dL_forge_3 rfl (lv_at hl 1 rfl) ?_
  refine lv_iload_n hx hb dL_forge_4 rfl (lv_at hl 2 rfl) ?_
  obtain ⟨H, eH⟩ : ∃ H : Heap, H = s.heap := ⟨_, rfl⟩
  have hS : va_S (lA (wsD g AD LL EE lc ec) ou) s.heap H [] := by rw [eH]; exact va_S.rf
  rw [← eH] at hP hO
  rw [← eH]
  refine w_V (As := [.int (nI k), .int (nI j)]) (rest := [.int (0), .ref (ou)]) S (c_X2_forge l g AD LL EE LN lc ec hlc hec hLL hEE k hk j hj hz) (cwV 2 hts gL_forge_X2_forge rfl rfl rfl (by decide +kernel) ⟨Nat.le_of_ble_eq_true rfl, Nat.le_of_ble_eq_true rfl⟩) hK (va_recv hK.1 hP (ci := 2) (q0 := 0) rfl dk_me) hP hD hS (fun q h9 => Or.inl h9) rfl hl.1 rfl (Nat.le_of_ble_eq_true rfl) dL_forge_5 ⟨Nat.le_of_ble_eq_true rfl, Nat.le_of_ble_eq_true rfl⟩ (fun H locs hP hz1 hk1 hS => ?_)
  have hO := out_kept hO hk1 hNo
  refine lv_i2l (v := ((LL k).1 j).toInt64) hx hb dL_forge_8 rfl ?_
  refine st_J (o := ou) (cA := gJ g) (v := v) (x := ((LL k).1 j).toInt64) (A := lA (wsD g AD LL EE lc ec) ou) hx hb hK.1 hO (Or.inr rfl) hS 3 rfl dL_forge_9 (fun H locs hO hk2 hS => ?_)
  have hP := dk_keep hP hk2 hAo
  refine lv_goto (tgt := 21) hx hb dL_forge_10 (by decide) ?_
  refine lv_iconst (v := 0) hx hb dL_forge_21 (by decide +kernel) ?_
  exact hret _ _ _ _ hP hO hS dL_forge_22

set_option maxHeartbeats 4000000 in
set_option maxRecDepth 100000 in
/-- the law's own forge_x -/
theorem c_L_forge_x (l : Launch) (hlt : l.stackTraces = false) (g : gT) (AD : Nat → Nat) (LL : Nat → ltT) (EE : Nat → evT) (LN : Nat → Nat) (lc ec : Nat) (hlc : lc ≤ 12) (hec : ec ≤ 24) (hLL : ∀ i, i < 12 → (LL i).2.2 ≤ 40) (hEE : ∀ q, q < ec → (EE q).1 = nI (LN q) ∧ LN q < lc ∧ (EE q).2.2.1 ≤ 40 ∧ (EE q).2.2.2.1 ≤ 8) (x : Int32) (hxb : inB x lc = false) (y : Int32) (ou : Nat) (v : Int64) : lM g l yL_forge wsL_forge { frames := 9, cells := 1, slots := 6, locals := 149 } [.ref (AD 0), .int (x), .int (y), .ref (ou)] (wsD g AD LL EE lc ec) ou v 1 (wsD g AD LL EE lc ec) (v) := by
  refine lr_of (cc := cL_forge) (maxL := 5) (by decide) rfl (Nat.le_of_ble_eq_true rfl) ?_
  intro p e s m args below meth c ls Q hx hb hml hts hown hK hZ hP hO hD hNo htab hl hret
  have hl : lv_has ls 5 [(0, .ref (AD 0)), (1, .int (x)), (2, .int (y)), (3, .ref (ou))] := hl
  have S : CallFix p m c cL_forge 5 s args wsL_forge RL := ⟨hx, hb, hml, hown, hts⟩
  have hAo : ∀ k, k < 87 → ¬ AD k = ou := dk_no hNo
  refine lv_aload_n hx hb dL_forge_0 rfl (lv_at hl 3 rfl) ?_
  refine lv_iconst (v := 0) hx hb dL_forge_1 (by decide +kernel) ?_
  refine lv_aload_n hx hb dL_forge_2 rfl (lv_at hl 0 rfl) ?_
  refine lv_iload_n hx hb dL_forge_3 rfl (lv_at hl 1 rfl) ?_
  refine lv_iload_n hx hb dL_forge_4 rfl (lv_at hl 2 rfl) ?_
  refine lx_V (E := "java/lang/IndexOutOfBoundsException") (As := [.int (x), .int (y)]) (rest := [.int (0), .ref (ou)]) S (c_X2_forge_x l hlt g AD LL EE LN lc ec hlc hec hLL hEE x hxb y) (cwV 2 hts gL_forge_X2_forge rfl rfl rfl (by decide +kernel) ⟨Nat.le_of_ble_eq_true rfl, Nat.le_of_ble_eq_true rfl⟩) hK hZ (va_recv hK.1 hP (ci := 2) (q0 := 0) rfl dk_me) hP rfl hl.1 rfl (Nat.le_of_ble_eq_true rfl) dL_forge_5 ⟨Nat.le_of_ble_eq_true rfl, Nat.le_of_ble_eq_true rfl⟩ [] ⟨0, 10, 13, 19⟩ [⟨0, 10, 17, 13⟩] htab (fun _ h9 => absurd h9 List.not_mem_nil) (by decide) (by decide) (hts (.classLink RL 19 "java/lang/IndexOutOfBoundsException") (by decide +kernel)) (List.mem_of_getElem? (i := 0) rfl) (fun H qx hz1 hk1 => ?_)
  have hP := dk_old hP hk1
  have hO := out_old hO hk1
  have hS : va_S (lA (wsD g AD LL EE lc ec) ou) s.heap H [] := ⟨hz1, fun q h1 _ => hk1 q h1, fun q h => nomatch h⟩
  refine lv_astore (lv' := [(4, .ref (qx)), (0, .ref (AD 0)), (1, .int (x)), (2, .int (y)), (3, .ref (ou))]) hx hb dL_forge_13 hl (by decide) rfl (fun ls hl => ?_)
  refine lv_iconst (v := 1) hx hb dL_forge_15 (by decide +kernel) ?_
  exact hret _ _ _ _ hP hO hS dL_forge_16

set_option maxHeartbeats 4000000 in
set_option maxRecDepth 100000 in
/-- the law's own forge_y -/
theorem c_L_forge_y (l : Launch) (hlt : l.stackTraces = false) (g : gT) (AD : Nat → Nat) (LL : Nat → ltT) (EE : Nat → evT) (LN : Nat → Nat) (lc ec : Nat) (hlc : lc ≤ 12) (hec : ec ≤ 24) (hLL : ∀ i, i < 12 → (LL i).2.2 ≤ 40) (hEE : ∀ q, q < ec → (EE q).1 = nI (LN q) ∧ LN q < lc ∧ (EE q).2.2.1 ≤ 40 ∧ (EE q).2.2.2.1 ≤ 8) (k : Nat) (hk : k < lc) (y : Int32) (hy : inB y (LL k).2.2 = false) (ou : Nat) (v : Int64) : lM g l yL_forge wsL_forge { frames := 9, cells := 1, slots := 6, locals := 149 } [.ref (AD 0), .int (nI k), .int (y), .ref (ou)] (wsD g AD LL EE lc ec) ou v 1 (wsD g AD LL EE lc ec) (v) := by
  refine lr_of (cc := cL_forge) (maxL := 5) (by decide) rfl (Nat.le_of_ble_eq_true rfl) ?_
  intro p e s m args below meth c ls Q hx hb hml hts hown hK hZ hP hO hD hNo htab hl hret
  have hl : lv_has ls 5 [(0, .ref (AD 0)), (1, .int (nI k)), (2, .int (y)), (3, .ref (ou))] := hl
  have S : CallFix p m c cL_forge 5 s args wsL_forge RL := ⟨hx, hb, hml, hown, hts⟩
  have hAo : ∀ k, k < 87 → ¬ AD k = ou := dk_no hNo
  refine lv_aload_n hx hb dL_forge_0 rfl (lv_at hl 3 rfl) ?_
  refine lv_iconst (v := 0) hx hb dL_forge_1 (by decide +kernel) ?_
  refine lv_aload_n hx hb dL_forge_2 rfl (lv_at hl 0 rfl) ?_
  refine lv_iload_n hx hb dL_forge_3 rfl (lv_at hl 1 rfl) ?_
  refine lv_iload_n hx hb dL_forge_4 rfl (lv_at hl 2 rfl) ?_
  refine lx_V (E := "java/lang/IndexOutOfBoundsException") (As := [.int (nI k), .int (y)]) (rest := [.int (0), .ref (ou)]) S (c_X2_forge_y l hlt g AD LL EE LN lc ec hlc hec hLL hEE k hk y hy) (cwV 2 hts gL_forge_X2_forge rfl rfl rfl (by decide +kernel) ⟨Nat.le_of_ble_eq_true rfl, Nat.le_of_ble_eq_true rfl⟩) hK hZ (va_recv hK.1 hP (ci := 2) (q0 := 0) rfl dk_me) hP rfl hl.1 rfl (Nat.le_of_ble_eq_true rfl) dL_forge_5 ⟨Nat.le_of_ble_eq_true rfl, Nat.le_of_ble_eq_true rfl⟩ [] ⟨0, 10, 13, 19⟩ [⟨0, 10, 17, 13⟩] htab (fun _ h9 => absurd h9 List.not_mem_nil) (by decide) (by decide) (hts (.classLink RL 19 "java/lang/IndexOutOfBoundsException") (by decide +kernel)) (List.mem_of_getElem? (i := 0) rfl) (fun H qx hz1 hk1 => ?_)
  have hP := dk_old hP hk1
  have hO := out_old hO hk1
  have hS : va_S (lA (wsD g AD LL EE lc ec) ou) s.heap H [] := ⟨hz1, fun q h1 _ => hk1 q h1, fun q h => nomatch h⟩
  refine lv_astore (lv' := [(4, .ref (qx)), (0, .ref (AD 0)), (1, .int (nI k)), (2, .int (y)), (3, .ref (ou))]) hx hb dL_forge_13 hl (by decide) rfl (fun ls hl => ?_)
  refine lv_iconst (v := 1) hx hb dL_forge_15 (by decide +kernel) ?_
  exact hret _ _ _ _ hP hO hS dL_forge_16

set_option maxHeartbeats 4000000 in
set_option maxRecDepth 100000 in
/-- the law's own forge_s -/
theorem c_L_forge_s (l : Launch) (hlt : l.stackTraces = false) (g : gT) (AD : Nat → Nat) (LL : Nat → ltT) (EE : Nat → evT) (LN : Nat → Nat) (lc ec : Nat) (hlc : lc ≤ 12) (hec : ec ≤ 24) (hLL : ∀ i, i < 12 → (LL i).2.2 ≤ 40) (hEE : ∀ q, q < ec → (EE q).1 = nI (LN q) ∧ LN q < lc ∧ (EE q).2.2.1 ≤ 40 ∧ (EE q).2.2.2.1 ≤ 8) (k : Nat) (hk : k < lc) (j : Nat) (hj : j < (LL k).2.2) (hz : (LL k).1 j = 27) (ou : Nat) (v : Int64) : lM g l yL_forge wsL_forge { frames := 9, cells := 1, slots := 6, locals := 149 } [.ref (AD 0), .int (nI k), .int (nI j), .ref (ou)] (wsD g AD LL EE lc ec) ou v 2 (wsD g AD LL EE lc ec) (v) := by
  refine lr_of (cc := cL_forge) (maxL := 5) (by decide) rfl (Nat.le_of_ble_eq_true rfl) ?_
  intro p e s m args below meth c ls Q hx hb hml hts hown hK hZ hP hO hD hNo htab hl hret
  have hl : lv_has ls 5 [(0, .ref (AD 0)), (1, .int (nI k)), (2, .int (nI j)), (3, .ref (ou))] := hl
  have S : CallFix p m c cL_forge 5 s args wsL_forge RL := ⟨hx, hb, hml, hown, hts⟩
  have hAo : ∀ k, k < 87 → ¬ AD k = ou := dk_no hNo
  refine lv_aload_n hx hb dL_forge_0 rfl (lv_at hl 3 rfl) ?_
  refine lv_iconst (v := 0) hx hb dL_forge_1 (by decide +kernel) ?_
  refine lv_aload_n hx hb dL_forge_2 rfl (lv_at hl 0 rfl) ?_
  refine lv_iload_n hx hb dL_forge_3 rfl (lv_at hl 1 rfl) ?_
  refine lv_iload_n hx hb dL_forge_4 rfl (lv_at hl 2 rfl) ?_
  refine lx_V (E := "java/lang/IllegalStateException") (As := [.int (nI k), .int (nI j)]) (rest := [.int (0), .ref (ou)]) S (c_X2_forge_s l hlt g AD LL EE LN lc ec hlc hec hLL hEE k hk j hj hz) (cwV 2 hts gL_forge_X2_forge rfl rfl rfl (by decide +kernel) ⟨Nat.le_of_ble_eq_true rfl, Nat.le_of_ble_eq_true rfl⟩) hK hZ (va_recv hK.1 hP (ci := 2) (q0 := 0) rfl dk_me) hP rfl hl.1 rfl (Nat.le_of_ble_eq_true rfl) dL_forge_5 ⟨Nat.le_of_ble_eq_true rfl, Nat.le_of_ble_eq_true rfl⟩ [⟨0, 10, 13, 19⟩] ⟨0, 10, 17, 13⟩ [] htab (List.forall_mem_cons.mpr ⟨Or.inr ⟨by decide, "java/lang/IndexOutOfBoundsException", hts (.classLink RL 19 "java/lang/IndexOutOfBoundsException") (by decide +kernel), hK.2.2.2.2.2.2 ("java/lang/IllegalStateException", "java/lang/IndexOutOfBoundsException") (List.mem_of_getElem? (i := 1) rfl)⟩, fun _ h9 => absurd h9 List.not_mem_nil⟩) (by decide) (by decide) (hts (.classLink RL 13 "java/lang/IllegalStateException") (by decide +kernel)) (List.mem_of_getElem? (i := 2) rfl) (fun H qx hz1 hk1 => ?_)
  have hP := dk_old hP hk1
  have hO := out_old hO hk1
  have hS : va_S (lA (wsD g AD LL EE lc ec) ou) s.heap H [] := ⟨hz1, fun q h1 _ => hk1 q h1, fun q h => nomatch h⟩
  refine lv_astore (lv' := [(4, .ref (qx)), (0, .ref (AD 0)), (1, .int (nI k)), (2, .int (nI j)), (3, .ref (ou))]) hx hb dL_forge_17 hl (by decide) rfl (fun ls hl => ?_)
  refine lv_iconst (v := 2) hx hb dL_forge_19 (by decide +kernel) ?_
  exact hret _ _ _ _ hP hO hS dL_forge_20

set_option maxHeartbeats 4000000 in
set_option maxRecDepth 100000 in
/-- the law's own tear -/
theorem c_L_tear (l : Launch) (g : gT) (AD : Nat → Nat) (LL : Nat → ltT) (EE : Nat → evT) (LN : Nat → Nat) (lc ec : Nat) (hlc : lc ≤ 12) (hec : ec ≤ 24) (hLL : ∀ i, i < 12 → (LL i).2.2 ≤ 40) (hEE : ∀ q, q < ec → (EE q).1 = nI (LN q) ∧ LN q < lc ∧ (EE q).2.2.1 ≤ 40 ∧ (EE q).2.2.2.1 ≤ 8) (k : Nat) (hk : k < lc) (j : Nat) (hj : j < (LL k).2.2) (hz : ¬ (LL k).1 j = 30) (ou : Nat) (v : Int64) : lM g l yL_tear wsL_tear { frames := 9, cells := 1, slots := 6, locals := 149 } [.ref (AD 0), .int (nI k), .int (nI j), .ref (ou)] (wsD g AD LL EE lc ec) ou v 0 (wsD g AD (fup LL k ((upd (LL k).1 j 30, (LL k).2.1, (LL k).2.2) : ltT)) EE lc ec) (((LL k).1 j).toInt64) := by
  refine lr_of (cc := cL_tear) (maxL := 5) (by decide) rfl (Nat.le_of_ble_eq_true rfl) ?_
  intro p e s m args below meth c ls Q hx hb hml hts hown hK hZ hP hO hD hNo htab hl hret
  have hl : lv_has ls 5 [(0, .ref (AD 0)), (1, .int (nI k)), (2, .int (nI j)), (3, .ref (ou))] := hl
  have S : CallFix p m c cL_tear 5 s args wsL_tear RL := ⟨hx, hb, hml, hown, hts⟩
  have hAo : ∀ k, k < 87 → ¬ AD k = ou := dk_no hNo
  refine W.widen (Nat.zero_le 1) (Nat.zero_le 6) ?_
  refine lv_aload_n hx hb dL_tear_0 rfl (lv_at hl 3 rfl) ?_
  refine lv_iconst (v := 0) hx hb dL_tear_1 (by decide +kernel) ?_
  refine lv_aload_n hx hb dL_tear_2 rfl (lv_at hl 0 rfl) ?_
  refine lv_iload_n hx hb dL_tear_3 rfl (lv_at hl 1 rfl) ?_
  refine lv_iload_n hx hb dL_tear_4 rfl (lv_at hl 2 rfl) ?_
  obtain ⟨H, eH⟩ : ∃ H : Heap, H = s.heap := ⟨_, rfl⟩
  have hS : va_S (lA (wsD g AD LL EE lc ec) ou) s.heap H [] := by rw [eH]; exact va_S.rf
  rw [← eH] at hP hO
  rw [← eH]
  refine w_V (As := [.int (nI k), .int (nI j)]) (rest := [.int (0), .ref (ou)]) S (c_X2_tear l g AD LL EE LN lc ec hlc hec hLL hEE k hk j hj hz) (cwV 2 hts gL_tear_X2_tear rfl rfl rfl (by decide +kernel) ⟨Nat.le_of_ble_eq_true rfl, Nat.le_of_ble_eq_true rfl⟩) hK (va_recv hK.1 hP (ci := 2) (q0 := 0) rfl dk_me) hP hD hS (fun q h9 => Or.inl h9) rfl hl.1 rfl (Nat.le_of_ble_eq_true rfl) dL_tear_5 ⟨Nat.le_of_ble_eq_true rfl, Nat.le_of_ble_eq_true rfl⟩ (fun H locs hP hz1 hk1 hS => ?_)
  have hO := out_kept hO hk1 hNo
  refine lv_i2l (v := ((LL k).1 j).toInt64) hx hb dL_tear_8 rfl ?_
  refine st_J (o := ou) (cA := gJ g) (v := v) (x := ((LL k).1 j).toInt64) (A := lA (wsD g AD LL EE lc ec) ou) hx hb hK.1 hO (Or.inr rfl) hS 3 rfl dL_tear_9 (fun H locs hO hk2 hS => ?_)
  have hP := dk_keep hP hk2 hAo
  refine lv_goto (tgt := 21) hx hb dL_tear_10 (by decide) ?_
  refine lv_iconst (v := 0) hx hb dL_tear_21 (by decide +kernel) ?_
  exact hret _ _ _ _ hP hO hS dL_tear_22

set_option maxHeartbeats 4000000 in
set_option maxRecDepth 100000 in
/-- the law's own tear_x -/
theorem c_L_tear_x (l : Launch) (hlt : l.stackTraces = false) (g : gT) (AD : Nat → Nat) (LL : Nat → ltT) (EE : Nat → evT) (LN : Nat → Nat) (lc ec : Nat) (hlc : lc ≤ 12) (hec : ec ≤ 24) (hLL : ∀ i, i < 12 → (LL i).2.2 ≤ 40) (hEE : ∀ q, q < ec → (EE q).1 = nI (LN q) ∧ LN q < lc ∧ (EE q).2.2.1 ≤ 40 ∧ (EE q).2.2.2.1 ≤ 8) (x : Int32) (hxb : inB x lc = false) (y : Int32) (ou : Nat) (v : Int64) : lM g l yL_tear wsL_tear { frames := 9, cells := 1, slots := 6, locals := 149 } [.ref (AD 0), .int (x), .int (y), .ref (ou)] (wsD g AD LL EE lc ec) ou v 1 (wsD g AD LL EE lc ec) (v) := by
  refine lr_of (cc := cL_tear) (maxL := 5) (by decide) rfl (Nat.le_of_ble_eq_true rfl) ?_
  intro p e s m args below meth c ls Q hx hb hml hts hown hK hZ hP hO hD hNo htab hl hret
  have hl : lv_has ls 5 [(0, .ref (AD 0)), (1, .int (x)), (2, .int (y)), (3, .ref (ou))] := hl
  have S : CallFix p m c cL_tear 5 s args wsL_tear RL := ⟨hx, hb, hml, hown, hts⟩
  have hAo : ∀ k, k < 87 → ¬ AD k = ou := dk_no hNo
  refine lv_aload_n hx hb dL_tear_0 rfl (lv_at hl 3 rfl) ?_
  refine lv_iconst (v := 0) hx hb dL_tear_1 (by decide +kernel) ?_
  refine lv_aload_n hx hb dL_tear_2 rfl (lv_at hl 0 rfl) ?_
  refine lv_iload_n hx hb dL_tear_3 rfl (lv_at hl 1 rfl) ?_
  refine lv_iload_n hx hb dL_tear_4 rfl (lv_at hl 2 rfl) ?_
  refine lx_V (E := "java/lang/IndexOutOfBoundsException") (As := [.int (x), .int (y)]) (rest := [.int (0), .ref (ou)]) S (c_X2_tear_x l hlt g AD LL EE LN lc ec hlc hec hLL hEE x hxb y) (cwV 2 hts gL_tear_X2_tear rfl rfl rfl (by decide +kernel) ⟨Nat.le_of_ble_eq_true rfl, Nat.le_of_ble_eq_true rfl⟩) hK hZ (va_recv hK.1 hP (ci := 2) (q0 := 0) rfl dk_me) hP rfl hl.1 rfl (Nat.le_of_ble_eq_true rfl) dL_tear_5 ⟨Nat.le_of_ble_eq_true rfl, Nat.le_of_ble_eq_true rfl⟩ [] ⟨0, 10, 13, 19⟩ [⟨0, 10, 17, 13⟩] htab (fun _ h9 => absurd h9 List.not_mem_nil) (by decide) (by decide) (hts (.classLink RL 19 "java/lang/IndexOutOfBoundsException") (by decide +kernel)) (List.mem_of_getElem? (i := 0) rfl) (fun H qx hz1 hk1 => ?_)
  have hP := dk_old hP hk1
  have hO := out_old hO hk1
  have hS : va_S (lA (wsD g AD LL EE lc ec) ou) s.heap H [] := ⟨hz1, fun q h1 _ => hk1 q h1, fun q h => nomatch h⟩
  refine lv_astore (lv' := [(4, .ref (qx)), (0, .ref (AD 0)), (1, .int (x)), (2, .int (y)), (3, .ref (ou))]) hx hb dL_tear_13 hl (by decide) rfl (fun ls hl => ?_)
  refine lv_iconst (v := 1) hx hb dL_tear_15 (by decide +kernel) ?_
  exact hret _ _ _ _ hP hO hS dL_tear_16

set_option maxHeartbeats 4000000 in
set_option maxRecDepth 100000 in
/-- the law's own tear_y -/
theorem c_L_tear_y (l : Launch) (hlt : l.stackTraces = false) (g : gT) (AD : Nat → Nat) (LL : Nat → ltT) (EE : Nat → evT) (LN : Nat → Nat) (lc ec : Nat) (hlc : lc ≤ 12) (hec : ec ≤ 24) (hLL : ∀ i, i < 12 → (LL i).2.2 ≤ 40) (hEE : ∀ q, q < ec → (EE q).1 = nI (LN q) ∧ LN q < lc ∧ (EE q).2.2.1 ≤ 40 ∧ (EE q).2.2.2.1 ≤ 8) (k : Nat) (hk : k < lc) (y : Int32) (hy : inB y (LL k).2.2 = false) (ou : Nat) (v : Int64) : lM g l yL_tear wsL_tear { frames := 9, cells := 1, slots := 6, locals := 149 } [.ref (AD 0), .int (nI k), .int (y), .ref (ou)] (wsD g AD LL EE lc ec) ou v 1 (wsD g AD LL EE lc ec) (v) := by
  refine lr_of (cc := cL_tear) (maxL := 5) (by decide) rfl (Nat.le_of_ble_eq_true rfl) ?_
  intro p e s m args below meth c ls Q hx hb hml hts hown hK hZ hP hO hD hNo htab hl hret
  have hl : lv_has ls 5 [(0, .ref (AD 0)), (1, .int (nI k)), (2, .int (y)), (3, .ref (ou))] := hl
  have S : CallFix p m c cL_tear 5 s args wsL_tear RL := ⟨hx, hb, hml, hown, hts⟩
  have hAo : ∀ k, k < 87 → ¬ AD k = ou := dk_no hNo
  refine lv_aload_n hx hb dL_tear_0 rfl (lv_at hl 3 rfl) ?_
  refine lv_iconst (v := 0) hx hb dL_tear_1 (by decide +kernel) ?_
  refine lv_aload_n hx hb dL_tear_2 rfl (lv_at hl 0 rfl) ?_
  refine lv_iload_n hx hb dL_tear_3 rfl (lv_at hl 1 rfl) ?_
  refine lv_iload_n hx hb dL_tear_4 rfl (lv_at hl 2 rfl) ?_
  refine lx_V (E := "java/lang/IndexOutOfBoundsException") (As := [.int (nI k), .int (y)]) (rest := [.int (0), .ref (ou)]) S (c_X2_tear_y l hlt g AD LL EE LN lc ec hlc hec hLL hEE k hk y hy) (cwV 2 hts gL_tear_X2_tear rfl rfl rfl (by decide +kernel) ⟨Nat.le_of_ble_eq_true rfl, Nat.le_of_ble_eq_true rfl⟩) hK hZ (va_recv hK.1 hP (ci := 2) (q0 := 0) rfl dk_me) hP rfl hl.1 rfl (Nat.le_of_ble_eq_true rfl) dL_tear_5 ⟨Nat.le_of_ble_eq_true rfl, Nat.le_of_ble_eq_true rfl⟩ [] ⟨0, 10, 13, 19⟩ [⟨0, 10, 17, 13⟩] htab (fun _ h9 => absurd h9 List.not_mem_nil) (by decide) (by decide) (hts (.classLink RL 19 "java/lang/IndexOutOfBoundsException") (by decide +kernel)) (List.mem_of_getElem? (i := 0) rfl) (fun H qx hz1 hk1 => ?_)
  have hP := dk_old hP hk1
  have hO := out_old hO hk1
  have hS : va_S (lA (wsD g AD LL EE lc ec) ou) s.heap H [] := ⟨hz1, fun q h1 _ => hk1 q h1, fun q h => nomatch h⟩
  refine lv_astore (lv' := [(4, .ref (qx)), (0, .ref (AD 0)), (1, .int (nI k)), (2, .int (y)), (3, .ref (ou))]) hx hb dL_tear_13 hl (by decide) rfl (fun ls hl => ?_)
  refine lv_iconst (v := 1) hx hb dL_tear_15 (by decide +kernel) ?_
  exact hret _ _ _ _ hP hO hS dL_tear_16

set_option maxHeartbeats 4000000 in
set_option maxRecDepth 100000 in
/-- the law's own tear_s -/
theorem c_L_tear_s (l : Launch) (hlt : l.stackTraces = false) (g : gT) (AD : Nat → Nat) (LL : Nat → ltT) (EE : Nat → evT) (LN : Nat → Nat) (lc ec : Nat) (hlc : lc ≤ 12) (hec : ec ≤ 24) (hLL : ∀ i, i < 12 → (LL i).2.2 ≤ 40) (hEE : ∀ q, q < ec → (EE q).1 = nI (LN q) ∧ LN q < lc ∧ (EE q).2.2.1 ≤ 40 ∧ (EE q).2.2.2.1 ≤ 8) (k : Nat) (hk : k < lc) (j : Nat) (hj : j < (LL k).2.2) (hz : (LL k).1 j = 30) (ou : Nat) (v : Int64) : lM g l yL_tear wsL_tear { frames := 9, cells := 1, slots := 6, locals := 149 } [.ref (AD 0), .int (nI k), .int (nI j), .ref (ou)] (wsD g AD LL EE lc ec) ou v 2 (wsD g AD LL EE lc ec) (v) := by
  refine lr_of (cc := cL_tear) (maxL := 5) (by decide) rfl (Nat.le_of_ble_eq_true rfl) ?_
  intro p e s m args below meth c ls Q hx hb hml hts hown hK hZ hP hO hD hNo htab hl hret
  have hl : lv_has ls 5 [(0, .ref (AD 0)), (1, .int (nI k)), (2, .int (nI j)), (3, .ref (ou))] := hl
  have S : CallFix p m c cL_tear 5 s args wsL_tear RL := ⟨hx, hb, hml, hown, hts⟩
  have hAo : ∀ k, k < 87 → ¬ AD k = ou := dk_no hNo
  refine lv_aload_n hx hb dL_tear_0 rfl (lv_at hl 3 rfl) ?_
  refine lv_iconst (v := 0) hx hb dL_tear_1 (by decide +kernel) ?_
  refine lv_aload_n hx hb dL_tear_2 rfl (lv_at hl 0 rfl) ?_
  refine lv_iload_n hx hb dL_tear_3 rfl (lv_at hl 1 rfl) ?_
  refine lv_iload_n hx hb dL_tear_4 rfl (lv_at hl 2 rfl) ?_
  refine lx_V (E := "java/lang/IllegalStateException") (As := [.int (nI k), .int (nI j)]) (rest := [.int (0), .ref (ou)]) S (c_X2_tear_s l hlt g AD LL EE LN lc ec hlc hec hLL hEE k hk j hj hz) (cwV 2 hts gL_tear_X2_tear rfl rfl rfl (by decide +kernel) ⟨Nat.le_of_ble_eq_true rfl, Nat.le_of_ble_eq_true rfl⟩) hK hZ (va_recv hK.1 hP (ci := 2) (q0 := 0) rfl dk_me) hP rfl hl.1 rfl (Nat.le_of_ble_eq_true rfl) dL_tear_5 ⟨Nat.le_of_ble_eq_true rfl, Nat.le_of_ble_eq_true rfl⟩ [⟨0, 10, 13, 19⟩] ⟨0, 10, 17, 13⟩ [] htab (List.forall_mem_cons.mpr ⟨Or.inr ⟨by decide, "java/lang/IndexOutOfBoundsException", hts (.classLink RL 19 "java/lang/IndexOutOfBoundsException") (by decide +kernel), hK.2.2.2.2.2.2 ("java/lang/IllegalStateException", "java/lang/IndexOutOfBoundsException") (List.mem_of_getElem? (i := 1) rfl)⟩, fun _ h9 => absurd h9 List.not_mem_nil⟩) (by decide) (by decide) (hts (.classLink RL 13 "java/lang/IllegalStateException") (by decide +kernel)) (List.mem_of_getElem? (i := 2) rfl) (fun H qx hz1 hk1 => ?_)
  have hP := dk_old hP hk1
  have hO := out_old hO hk1
  have hS : va_S (lA (wsD g AD LL EE lc ec) ou) s.heap H [] := ⟨hz1, fun q h1 _ => hk1 q h1, fun q h => nomatch h⟩
  refine lv_astore (lv' := [(4, .ref (qx)), (0, .ref (AD 0)), (1, .int (nI k)), (2, .int (nI j)), (3, .ref (ou))]) hx hb dL_tear_17 hl (by decide) rfl (fun ls hl => ?_)
  refine lv_iconst (v := 2) hx hb dL_tear_19 (by decide +kernel) ?_
  exact hret _ _ _ _ hP hO hS dL_tear_20

set_option maxHeartbeats 4000000 in
set_option maxRecDepth 100000 in
/-- the law's own mend -/
theorem c_L_mend (l : Launch) (g : gT) (AD : Nat → Nat) (LL : Nat → ltT) (EE : Nat → evT) (LN : Nat → Nat) (lc ec : Nat) (hlc : lc ≤ 12) (hec : ec ≤ 24) (hLL : ∀ i, i < 12 → (LL i).2.2 ≤ 40) (hEE : ∀ q, q < ec → (EE q).1 = nI (LN q) ∧ LN q < lc ∧ (EE q).2.2.1 ≤ 40 ∧ (EE q).2.2.2.1 ≤ 8) (k : Nat) (hk : k < lc) (j : Nat) (hj : j < (LL k).2.2) (x : Int32) (hs : (decide (0 ≤ x) && decide (x ≤ 29)) = true) (hz : (LL k).1 j = 30) (ou : Nat) (v : Int64) : lM g l yL_mend wsL_mend { frames := 9, cells := 1, slots := 6, locals := 150 } [.ref (AD 0), .int (nI k), .int (nI j), .int (x), .ref (ou)] (wsD g AD LL EE lc ec) ou v 0 (wsD g AD (fup LL k ((upd (LL k).1 j x, (LL k).2.1, (LL k).2.2) : ltT)) EE lc ec) ((cntF (upd (LL k).1 j x) 30 (LL k).2.2).toInt64) := by
  refine lr_of (cc := cL_mend) (maxL := 6) (by decide) rfl (Nat.le_of_ble_eq_true rfl) ?_
  intro p e s m args below meth c ls Q hx hb hml hts hown hK hZ hP hO hD hNo htab hl hret
  have hl : lv_has ls 6 [(0, .ref (AD 0)), (1, .int (nI k)), (2, .int (nI j)), (3, .int (x)), (4, .ref (ou))] := hl
  have S : CallFix p m c cL_mend 6 s args wsL_mend RL := ⟨hx, hb, hml, hown, hts⟩
  have hAo : ∀ k, k < 87 → ¬ AD k = ou := dk_no hNo
  refine W.widen (Nat.zero_le 1) (Nat.zero_le 6) ?_
  refine lv_aload hx hb dL_mend_0 (lv_at hl 4 rfl) ?_
  refine lv_iconst (v := 0) hx hb dL_mend_2 (by decide +kernel) ?_
  refine lv_aload_n hx hb dL_mend_3 rfl (lv_at hl 0 rfl) ?_
  refine lv_iload_n hx hb dL_mend_4 rfl (lv_at hl 1 rfl) ?_
  refine lv_iload_n hx hb dL_mend_5 rfl (lv_at hl 2 rfl) ?_
  refine lv_iload_n hx hb dL_mend_6 rfl (lv_at hl 3 rfl) ?_
  obtain ⟨H, eH⟩ : ∃ H : Heap, H = s.heap := ⟨_, rfl⟩
  have hS : va_S (lA (wsD g AD LL EE lc ec) ou) s.heap H [] := by rw [eH]; exact va_S.rf
  rw [← eH] at hP hO
  rw [← eH]
  refine w_V (As := [.int (nI k), .int (nI j), .int (x)]) (rest := [.int (0), .ref (ou)]) S (c_X2_mend l g AD LL EE LN lc ec hlc hec hLL hEE k hk j hj x hs hz) (cwV 3 hts gL_mend_X2_mend rfl rfl rfl (by decide +kernel) ⟨Nat.le_of_ble_eq_true rfl, Nat.le_of_ble_eq_true rfl⟩) hK (va_recv hK.1 hP (ci := 2) (q0 := 0) rfl dk_me) hP hD hS (fun q h9 => Or.inl h9) rfl hl.1 rfl (Nat.le_of_ble_eq_true rfl) dL_mend_7 ⟨Nat.le_of_ble_eq_true rfl, Nat.le_of_ble_eq_true rfl⟩ (fun H locs hP hz1 hk1 hS => ?_)
  have hO := out_kept hO hk1 hNo
  refine lv_i2l (v := (cntF (upd (LL k).1 j x) 30 (LL k).2.2).toInt64) hx hb dL_mend_10 rfl ?_
  refine st_J (o := ou) (cA := gJ g) (v := v) (x := (cntF (upd (LL k).1 j x) 30 (LL k).2.2).toInt64) (A := lA (wsD g AD LL EE lc ec) ou) hx hb hK.1 hO (Or.inr rfl) hS 3 rfl dL_mend_11 (fun H locs hO hk2 hS => ?_)
  have hP := dk_keep hP hk2 hAo
  refine lv_goto (tgt := 27) hx hb dL_mend_12 (by decide) ?_
  refine lv_iconst (v := 0) hx hb dL_mend_27 (by decide +kernel) ?_
  exact hret _ _ _ _ hP hO hS dL_mend_28

set_option maxHeartbeats 4000000 in
set_option maxRecDepth 100000 in
/-- the law's own mend_x -/
theorem c_L_mend_x (l : Launch) (hlt : l.stackTraces = false) (g : gT) (AD : Nat → Nat) (LL : Nat → ltT) (EE : Nat → evT) (LN : Nat → Nat) (lc ec : Nat) (hlc : lc ≤ 12) (hec : ec ≤ 24) (hLL : ∀ i, i < 12 → (LL i).2.2 ≤ 40) (hEE : ∀ q, q < ec → (EE q).1 = nI (LN q) ∧ LN q < lc ∧ (EE q).2.2.1 ≤ 40 ∧ (EE q).2.2.2.1 ≤ 8) (x : Int32) (hxb : inB x lc = false) (y z : Int32) (ou : Nat) (v : Int64) : lM g l yL_mend wsL_mend { frames := 9, cells := 1, slots := 6, locals := 150 } [.ref (AD 0), .int (x), .int (y), .int (z), .ref (ou)] (wsD g AD LL EE lc ec) ou v 1 (wsD g AD LL EE lc ec) (v) := by
  refine lr_of (cc := cL_mend) (maxL := 6) (by decide) rfl (Nat.le_of_ble_eq_true rfl) ?_
  intro p e s m args below meth c ls Q hx hb hml hts hown hK hZ hP hO hD hNo htab hl hret
  have hl : lv_has ls 6 [(0, .ref (AD 0)), (1, .int (x)), (2, .int (y)), (3, .int (z)), (4, .ref (ou))] := hl
  have S : CallFix p m c cL_mend 6 s args wsL_mend RL := ⟨hx, hb, hml, hown, hts⟩
  have hAo : ∀ k, k < 87 → ¬ AD k = ou := dk_no hNo
  refine lv_aload hx hb dL_mend_0 (lv_at hl 4 rfl) ?_
  refine lv_iconst (v := 0) hx hb dL_mend_2 (by decide +kernel) ?_
  refine lv_aload_n hx hb dL_mend_3 rfl (lv_at hl 0 rfl) ?_
  refine lv_iload_n hx hb dL_mend_4 rfl (lv_at hl 1 rfl) ?_
  refine lv_iload_n hx hb dL_mend_5 rfl (lv_at hl 2 rfl) ?_
  refine lv_iload_n hx hb dL_mend_6 rfl (lv_at hl 3 rfl) ?_
  refine lx_V (E := "java/lang/IndexOutOfBoundsException") (As := [.int (x), .int (y), .int (z)]) (rest := [.int (0), .ref (ou)]) S (c_X2_mend_x l hlt g AD LL EE LN lc ec hlc hec hLL hEE x hxb y z) (cwV 3 hts gL_mend_X2_mend rfl rfl rfl (by decide +kernel) ⟨Nat.le_of_ble_eq_true rfl, Nat.le_of_ble_eq_true rfl⟩) hK hZ (va_recv hK.1 hP (ci := 2) (q0 := 0) rfl dk_me) hP rfl hl.1 rfl (Nat.le_of_ble_eq_true rfl) dL_mend_7 ⟨Nat.le_of_ble_eq_true rfl, Nat.le_of_ble_eq_true rfl⟩ [] ⟨0, 12, 15, 19⟩ [⟨0, 12, 19, 25⟩, ⟨0, 12, 23, 13⟩] htab (fun _ h9 => absurd h9 List.not_mem_nil) (by decide) (by decide) (hts (.classLink RL 19 "java/lang/IndexOutOfBoundsException") (by decide +kernel)) (List.mem_of_getElem? (i := 0) rfl) (fun H qx hz1 hk1 => ?_)
  have hP := dk_old hP hk1
  have hO := out_old hO hk1
  have hS : va_S (lA (wsD g AD LL EE lc ec) ou) s.heap H [] := ⟨hz1, fun q h1 _ => hk1 q h1, fun q h => nomatch h⟩
  refine lv_astore (lv' := [(5, .ref (qx)), (0, .ref (AD 0)), (1, .int (x)), (2, .int (y)), (3, .int (z)), (4, .ref (ou))]) hx hb dL_mend_15 hl (by decide) rfl (fun ls hl => ?_)
  refine lv_iconst (v := 1) hx hb dL_mend_17 (by decide +kernel) ?_
  exact hret _ _ _ _ hP hO hS dL_mend_18

set_option maxHeartbeats 4000000 in
set_option maxRecDepth 100000 in
/-- the law's own mend_y -/
theorem c_L_mend_y (l : Launch) (hlt : l.stackTraces = false) (g : gT) (AD : Nat → Nat) (LL : Nat → ltT) (EE : Nat → evT) (LN : Nat → Nat) (lc ec : Nat) (hlc : lc ≤ 12) (hec : ec ≤ 24) (hLL : ∀ i, i < 12 → (LL i).2.2 ≤ 40) (hEE : ∀ q, q < ec → (EE q).1 = nI (LN q) ∧ LN q < lc ∧ (EE q).2.2.1 ≤ 40 ∧ (EE q).2.2.2.1 ≤ 8) (k : Nat) (hk : k < lc) (y : Int32) (hy : inB y (LL k).2.2 = false) (z : Int32) (ou : Nat) (v : Int64) : lM g l yL_mend wsL_mend { frames := 9, cells := 1, slots := 6, locals := 150 } [.ref (AD 0), .int (nI k), .int (y), .int (z), .ref (ou)] (wsD g AD LL EE lc ec) ou v 1 (wsD g AD LL EE lc ec) (v) := by
  refine lr_of (cc := cL_mend) (maxL := 6) (by decide) rfl (Nat.le_of_ble_eq_true rfl) ?_
  intro p e s m args below meth c ls Q hx hb hml hts hown hK hZ hP hO hD hNo htab hl hret
  have hl : lv_has ls 6 [(0, .ref (AD 0)), (1, .int (nI k)), (2, .int (y)), (3, .int (z)), (4, .ref (ou))] := hl
  have S : CallFix p m c cL_mend 6 s args wsL_mend RL := ⟨hx, hb, hml, hown, hts⟩
  have hAo : ∀ k, k < 87 → ¬ AD k = ou := dk_no hNo
  refine lv_aload hx hb dL_mend_0 (lv_at hl 4 rfl) ?_
  refine lv_iconst (v := 0) hx hb dL_mend_2 (by decide +kernel) ?_
  refine lv_aload_n hx hb dL_mend_3 rfl (lv_at hl 0 rfl) ?_
  refine lv_iload_n hx hb dL_mend_4 rfl (lv_at hl 1 rfl) ?_
  refine lv_iload_n hx hb dL_mend_5 rfl (lv_at hl 2 rfl) ?_
  refine lv_iload_n hx hb dL_mend_6 rfl (lv_at hl 3 rfl) ?_
  refine lx_V (E := "java/lang/IndexOutOfBoundsException") (As := [.int (nI k), .int (y), .int (z)]) (rest := [.int (0), .ref (ou)]) S (c_X2_mend_y l hlt g AD LL EE LN lc ec hlc hec hLL hEE k hk y hy z) (cwV 3 hts gL_mend_X2_mend rfl rfl rfl (by decide +kernel) ⟨Nat.le_of_ble_eq_true rfl, Nat.le_of_ble_eq_true rfl⟩) hK hZ (va_recv hK.1 hP (ci := 2) (q0 := 0) rfl dk_me) hP rfl hl.1 rfl (Nat.le_of_ble_eq_true rfl) dL_mend_7 ⟨Nat.le_of_ble_eq_true rfl, Nat.le_of_ble_eq_true rfl⟩ [] ⟨0, 12, 15, 19⟩ [⟨0, 12, 19, 25⟩, ⟨0, 12, 23, 13⟩] htab (fun _ h9 => absurd h9 List.not_mem_nil) (by decide) (by decide) (hts (.classLink RL 19 "java/lang/IndexOutOfBoundsException") (by decide +kernel)) (List.mem_of_getElem? (i := 0) rfl) (fun H qx hz1 hk1 => ?_)
  have hP := dk_old hP hk1
  have hO := out_old hO hk1
  have hS : va_S (lA (wsD g AD LL EE lc ec) ou) s.heap H [] := ⟨hz1, fun q h1 _ => hk1 q h1, fun q h => nomatch h⟩
  refine lv_astore (lv' := [(5, .ref (qx)), (0, .ref (AD 0)), (1, .int (nI k)), (2, .int (y)), (3, .int (z)), (4, .ref (ou))]) hx hb dL_mend_15 hl (by decide) rfl (fun ls hl => ?_)
  refine lv_iconst (v := 1) hx hb dL_mend_17 (by decide +kernel) ?_
  exact hret _ _ _ _ hP hO hS dL_mend_18

set_option maxHeartbeats 4000000 in
set_option maxRecDepth 100000 in
/-- the law's own mend_a -/
theorem c_L_mend_a (l : Launch) (hlt : l.stackTraces = false) (g : gT) (AD : Nat → Nat) (LL : Nat → ltT) (EE : Nat → evT) (LN : Nat → Nat) (lc ec : Nat) (hlc : lc ≤ 12) (hec : ec ≤ 24) (hLL : ∀ i, i < 12 → (LL i).2.2 ≤ 40) (hEE : ∀ q, q < ec → (EE q).1 = nI (LN q) ∧ LN q < lc ∧ (EE q).2.2.1 ≤ 40 ∧ (EE q).2.2.2.1 ≤ 8) (k : Nat) (hk : k < lc) (j : Nat) (hj : j < (LL k).2.2) (x : Int32) (hs : (decide (0 ≤ x) && decide (x ≤ 29)) = false) (ou : Nat) (v : Int64) : lM g l yL_mend wsL_mend { frames := 9, cells := 1, slots := 6, locals := 150 } [.ref (AD 0), .int (nI k), .int (nI j), .int (x), .ref (ou)] (wsD g AD LL EE lc ec) ou v 2 (wsD g AD LL EE lc ec) (v) := by
  refine lr_of (cc := cL_mend) (maxL := 6) (by decide) rfl (Nat.le_of_ble_eq_true rfl) ?_
  intro p e s m args below meth c ls Q hx hb hml hts hown hK hZ hP hO hD hNo htab hl hret
  have hl : lv_has ls 6 [(0, .ref (AD 0)), (1, .int (nI k)), (2, .int (nI j)), (3, .int (x)), (4, .ref (ou))] := hl
  have S : CallFix p m c cL_mend 6 s args wsL_mend RL := ⟨hx, hb, hml, hown, hts⟩
  have hAo : ∀ k, k < 87 → ¬ AD k = ou := dk_no hNo
  refine lv_aload hx hb dL_mend_0 (lv_at hl 4 rfl) ?_
  refine lv_iconst (v := 0) hx hb dL_mend_2 (by decide +kernel) ?_
  refine lv_aload_n hx hb dL_mend_3 rfl (lv_at hl 0 rfl) ?_
  refine lv_iload_n hx hb dL_mend_4 rfl (lv_at hl 1 rfl) ?_
  refine lv_iload_n hx hb dL_mend_5 rfl (lv_at hl 2 rfl) ?_
  refine lv_iload_n hx hb dL_mend_6 rfl (lv_at hl 3 rfl) ?_
  refine lx_V (E := "java/lang/IllegalArgumentException") (As := [.int (nI k), .int (nI j), .int (x)]) (rest := [.int (0), .ref (ou)]) S (c_X2_mend_a l hlt g AD LL EE LN lc ec hlc hec hLL hEE k hk j hj x hs) (cwV 3 hts gL_mend_X2_mend rfl rfl rfl (by decide +kernel) ⟨Nat.le_of_ble_eq_true rfl, Nat.le_of_ble_eq_true rfl⟩) hK hZ (va_recv hK.1 hP (ci := 2) (q0 := 0) rfl dk_me) hP rfl hl.1 rfl (Nat.le_of_ble_eq_true rfl) dL_mend_7 ⟨Nat.le_of_ble_eq_true rfl, Nat.le_of_ble_eq_true rfl⟩ [⟨0, 12, 15, 19⟩] ⟨0, 12, 19, 25⟩ [⟨0, 12, 23, 13⟩] htab (List.forall_mem_cons.mpr ⟨Or.inr ⟨by decide, "java/lang/IndexOutOfBoundsException", hts (.classLink RL 19 "java/lang/IndexOutOfBoundsException") (by decide +kernel), hK.2.2.2.2.2.2 ("java/lang/IllegalArgumentException", "java/lang/IndexOutOfBoundsException") (List.mem_of_getElem? (i := 0) rfl)⟩, fun _ h9 => absurd h9 List.not_mem_nil⟩) (by decide) (by decide) (hts (.classLink RL 25 "java/lang/IllegalArgumentException") (by decide +kernel)) (List.mem_of_getElem? (i := 1) rfl) (fun H qx hz1 hk1 => ?_)
  have hP := dk_old hP hk1
  have hO := out_old hO hk1
  have hS : va_S (lA (wsD g AD LL EE lc ec) ou) s.heap H [] := ⟨hz1, fun q h1 _ => hk1 q h1, fun q h => nomatch h⟩
  refine lv_astore (lv' := [(5, .ref (qx)), (0, .ref (AD 0)), (1, .int (nI k)), (2, .int (nI j)), (3, .int (x)), (4, .ref (ou))]) hx hb dL_mend_19 hl (by decide) rfl (fun ls hl => ?_)
  refine lv_iconst (v := 2) hx hb dL_mend_21 (by decide +kernel) ?_
  exact hret _ _ _ _ hP hO hS dL_mend_22

set_option maxHeartbeats 4000000 in
set_option maxRecDepth 100000 in
/-- the law's own mend_s -/
theorem c_L_mend_s (l : Launch) (hlt : l.stackTraces = false) (g : gT) (AD : Nat → Nat) (LL : Nat → ltT) (EE : Nat → evT) (LN : Nat → Nat) (lc ec : Nat) (hlc : lc ≤ 12) (hec : ec ≤ 24) (hLL : ∀ i, i < 12 → (LL i).2.2 ≤ 40) (hEE : ∀ q, q < ec → (EE q).1 = nI (LN q) ∧ LN q < lc ∧ (EE q).2.2.1 ≤ 40 ∧ (EE q).2.2.2.1 ≤ 8) (k : Nat) (hk : k < lc) (j : Nat) (hj : j < (LL k).2.2) (x : Int32) (hs : (decide (0 ≤ x) && decide (x ≤ 29)) = true) (hz : ¬ (LL k).1 j = 30) (ou : Nat) (v : Int64) : lM g l yL_mend wsL_mend { frames := 9, cells := 1, slots := 6, locals := 150 } [.ref (AD 0), .int (nI k), .int (nI j), .int (x), .ref (ou)] (wsD g AD LL EE lc ec) ou v 3 (wsD g AD LL EE lc ec) (v) := by
  refine lr_of (cc := cL_mend) (maxL := 6) (by decide) rfl (Nat.le_of_ble_eq_true rfl) ?_
  intro p e s m args below meth c ls Q hx hb hml hts hown hK hZ hP hO hD hNo htab hl hret
  have hl : lv_has ls 6 [(0, .ref (AD 0)), (1, .int (nI k)), (2, .int (nI j)), (3, .int (x)), (4, .ref (ou))] := hl
  have S : CallFix p m c cL_mend 6 s args wsL_mend RL := ⟨hx, hb, hml, hown, hts⟩
  have hAo : ∀ k, k < 87 → ¬ AD k = ou := dk_no hNo
  refine lv_aload hx hb dL_mend_0 (lv_at hl 4 rfl) ?_
  refine lv_iconst (v := 0) hx hb dL_mend_2 (by decide +kernel) ?_
  refine lv_aload_n hx hb dL_mend_3 rfl (lv_at hl 0 rfl) ?_
  refine lv_iload_n hx hb dL_mend_4 rfl (lv_at hl 1 rfl) ?_
  refine lv_iload_n hx hb dL_mend_5 rfl (lv_at hl 2 rfl) ?_
  refine lv_iload_n hx hb dL_mend_6 rfl (lv_at hl 3 rfl) ?_
  refine lx_V (E := "java/lang/IllegalStateException") (As := [.int (nI k), .int (nI j), .int (x)]) (rest := [.int (0), .ref (ou)]) S (c_X2_mend_s l hlt g AD LL EE LN lc ec hlc hec hLL hEE k hk j hj x hs hz) (cwV 3 hts gL_mend_X2_mend rfl rfl rfl (by decide +kernel) ⟨Nat.le_of_ble_eq_true rfl, Nat.le_of_ble_eq_true rfl⟩) hK hZ (va_recv hK.1 hP (ci := 2) (q0 := 0) rfl dk_me) hP rfl hl.1 rfl (Nat.le_of_ble_eq_true rfl) dL_mend_7 ⟨Nat.le_of_ble_eq_true rfl, Nat.le_of_ble_eq_true rfl⟩ [⟨0, 12, 15, 19⟩, ⟨0, 12, 19, 25⟩] ⟨0, 12, 23, 13⟩ [] htab (List.forall_mem_cons.mpr ⟨Or.inr ⟨by decide, "java/lang/IndexOutOfBoundsException", hts (.classLink RL 19 "java/lang/IndexOutOfBoundsException") (by decide +kernel), hK.2.2.2.2.2.2 ("java/lang/IllegalStateException", "java/lang/IndexOutOfBoundsException") (List.mem_of_getElem? (i := 1) rfl)⟩, List.forall_mem_cons.mpr ⟨Or.inr ⟨by decide, "java/lang/IllegalArgumentException", hts (.classLink RL 25 "java/lang/IllegalArgumentException") (by decide +kernel), hK.2.2.2.2.2.2 ("java/lang/IllegalStateException", "java/lang/IllegalArgumentException") (List.mem_of_getElem? (i := 2) rfl)⟩, fun _ h9 => absurd h9 List.not_mem_nil⟩⟩) (by decide) (by decide) (hts (.classLink RL 13 "java/lang/IllegalStateException") (by decide +kernel)) (List.mem_of_getElem? (i := 2) rfl) (fun H qx hz1 hk1 => ?_)
  have hP := dk_old hP hk1
  have hO := out_old hO hk1
  have hS : va_S (lA (wsD g AD LL EE lc ec) ou) s.heap H [] := ⟨hz1, fun q h1 _ => hk1 q h1, fun q h => nomatch h⟩
  refine lv_astore (lv' := [(5, .ref (qx)), (0, .ref (AD 0)), (1, .int (nI k)), (2, .int (nI j)), (3, .int (x)), (4, .ref (ou))]) hx hb dL_mend_23 hl (by decide) rfl (fun ls hl => ?_)
  refine lv_iconst (v := 3) hx hb dL_mend_25 (by decide +kernel) ?_
  exact hret _ _ _ _ hP hO hS dL_mend_26

set_option maxHeartbeats 4000000 in
set_option maxRecDepth 100000 in
/-- the law's own seal -/
theorem c_L_seal (l : Launch) (g : gT) (AD : Nat → Nat) (LL : Nat → ltT) (EE : Nat → evT) (LN : Nat → Nat) (lc ec : Nat) (hlc : lc ≤ 12) (hec : ec ≤ 24) (hLL : ∀ i, i < 12 → (LL i).2.2 ≤ 40) (hEE : ∀ q, q < ec → (EE q).1 = nI (LN q) ∧ LN q < lc ∧ (EE q).2.2.1 ≤ 40 ∧ (EE q).2.2.2.1 ≤ 8) (k : Nat) (hk : k < lc) (hn1 : 0 < (LL k).2.2) (he1 : ec < 24) (ou : Nat) (v : Int64) : lM g l yL_seal wsL_seal { frames := 8, cells := 1, slots := 6, locals := 125 } [.ref (AD 0), .int (nI k), .ref (ou)] (wsD g AD LL EE lc ec) ou v 0 (wsD g AD LL (fup EE ec ((nI k, dgF (LL k).1 (LL k).2.2, (LL k).2.2, ((LL k).2.2 + 4) / 5, smF (LL k).1 (LL k).2.2, wtF (LL k).1 (LL k).2.2, slF (lsD EE ec) (dgF (LL k).1 (LL k).2.2), flF (EE ec).2.2.2.2.2.2.2 (blF (LL k).1 (LL k).2.2) (((LL k).2.2 + 4) / 5)) : evT)) lc (ec + 1)) ((nI ec).toInt64) := by
  refine lr_of (cc := cL_seal) (maxL := 4) (by decide) rfl (Nat.le_of_ble_eq_true rfl) ?_
  intro p e s m args below meth c ls Q hx hb hml hts hown hK hZ hP hO hD hNo htab hl hret
  have hl : lv_has ls 4 [(0, .ref (AD 0)), (1, .int (nI k)), (2, .ref (ou))] := hl
  have S : CallFix p m c cL_seal 4 s args wsL_seal RL := ⟨hx, hb, hml, hown, hts⟩
  have hAo : ∀ k, k < 87 → ¬ AD k = ou := dk_no hNo
  refine W.widen (Nat.zero_le 1) (Nat.zero_le 6) ?_
  refine lv_aload_n hx hb dL_seal_0 rfl (lv_at hl 2 rfl) ?_
  refine lv_iconst (v := 0) hx hb dL_seal_1 (by decide +kernel) ?_
  refine lv_aload_n hx hb dL_seal_2 rfl (lv_at hl 0 rfl) ?_
  refine lv_iload_n hx hb dL_seal_3 rfl (lv_at hl 1 rfl) ?_
  obtain ⟨H, eH⟩ : ∃ H : Heap, H = s.heap := ⟨_, rfl⟩
  have hS : va_S (lA (wsD g AD LL EE lc ec) ou) s.heap H [] := by rw [eH]; exact va_S.rf
  rw [← eH] at hP hO
  rw [← eH]
  refine w_V (As := [.int (nI k)]) (rest := [.int (0), .ref (ou)]) S (c_X2_seal l g AD LL EE LN lc ec hlc hec hLL hEE k hk hn1 he1) (cwV 1 hts gL_seal_X2_seal rfl rfl rfl (by decide +kernel) ⟨Nat.le_of_ble_eq_true rfl, Nat.le_of_ble_eq_true rfl⟩) hK (va_recv hK.1 hP (ci := 2) (q0 := 0) rfl dk_me) hP hD hS (fun q h9 => Or.inl h9) rfl hl.1 rfl (Nat.le_of_ble_eq_true rfl) dL_seal_4 ⟨Nat.le_of_ble_eq_true rfl, Nat.le_of_ble_eq_true rfl⟩ (fun H locs hP hz1 hk1 hS => ?_)
  have hO := out_kept hO hk1 hNo
  refine lv_i2l (v := (nI ec).toInt64) hx hb dL_seal_7 rfl ?_
  refine st_J (o := ou) (cA := gJ g) (v := v) (x := (nI ec).toInt64) (A := lA (wsD g AD LL EE lc ec) ou) hx hb hK.1 hO (Or.inr rfl) hS 3 rfl dL_seal_8 (fun H locs hO hk2 hS => ?_)
  have hP := dk_keep hP hk2 hAo
  refine lv_goto (tgt := 18) hx hb dL_seal_9 (by decide) ?_
  refine lv_iconst (v := 0) hx hb dL_seal_18 (by decide +kernel) ?_
  exact hret _ _ _ _ hP hO hS dL_seal_19

set_option maxHeartbeats 4000000 in
set_option maxRecDepth 100000 in
/-- the law's own seal_x -/
theorem c_L_seal_x (l : Launch) (hlt : l.stackTraces = false) (g : gT) (AD : Nat → Nat) (LL : Nat → ltT) (EE : Nat → evT) (LN : Nat → Nat) (lc ec : Nat) (hlc : lc ≤ 12) (hec : ec ≤ 24) (hLL : ∀ i, i < 12 → (LL i).2.2 ≤ 40) (hEE : ∀ q, q < ec → (EE q).1 = nI (LN q) ∧ LN q < lc ∧ (EE q).2.2.1 ≤ 40 ∧ (EE q).2.2.2.1 ≤ 8) (x : Int32) (hxb : inB x lc = false) (ou : Nat) (v : Int64) : lM g l yL_seal wsL_seal { frames := 8, cells := 1, slots := 6, locals := 125 } [.ref (AD 0), .int (x), .ref (ou)] (wsD g AD LL EE lc ec) ou v 1 (wsD g AD LL EE lc ec) (v) := by
  refine lr_of (cc := cL_seal) (maxL := 4) (by decide) rfl (Nat.le_of_ble_eq_true rfl) ?_
  intro p e s m args below meth c ls Q hx hb hml hts hown hK hZ hP hO hD hNo htab hl hret
  have hl : lv_has ls 4 [(0, .ref (AD 0)), (1, .int (x)), (2, .ref (ou))] := hl
  have S : CallFix p m c cL_seal 4 s args wsL_seal RL := ⟨hx, hb, hml, hown, hts⟩
  have hAo : ∀ k, k < 87 → ¬ AD k = ou := dk_no hNo
  refine lv_aload_n hx hb dL_seal_0 rfl (lv_at hl 2 rfl) ?_
  refine lv_iconst (v := 0) hx hb dL_seal_1 (by decide +kernel) ?_
  refine lv_aload_n hx hb dL_seal_2 rfl (lv_at hl 0 rfl) ?_
  refine lv_iload_n hx hb dL_seal_3 rfl (lv_at hl 1 rfl) ?_
  refine lx_V (E := "java/lang/IndexOutOfBoundsException") (As := [.int (x)]) (rest := [.int (0), .ref (ou)]) S (c_X2_seal_x l hlt g AD LL EE LN lc ec hlc hec hLL hEE x hxb) (cwV 1 hts gL_seal_X2_seal rfl rfl rfl (by decide +kernel) ⟨Nat.le_of_ble_eq_true rfl, Nat.le_of_ble_eq_true rfl⟩) hK hZ (va_recv hK.1 hP (ci := 2) (q0 := 0) rfl dk_me) hP rfl hl.1 rfl (Nat.le_of_ble_eq_true rfl) dL_seal_4 ⟨Nat.le_of_ble_eq_true rfl, Nat.le_of_ble_eq_true rfl⟩ [] ⟨0, 9, 12, 19⟩ [⟨0, 9, 15, 13⟩] htab (fun _ h9 => absurd h9 List.not_mem_nil) (by decide) (by decide) (hts (.classLink RL 19 "java/lang/IndexOutOfBoundsException") (by decide +kernel)) (List.mem_of_getElem? (i := 0) rfl) (fun H qx hz1 hk1 => ?_)
  have hP := dk_old hP hk1
  have hO := out_old hO hk1
  have hS : va_S (lA (wsD g AD LL EE lc ec) ou) s.heap H [] := ⟨hz1, fun q h1 _ => hk1 q h1, fun q h => nomatch h⟩
  refine lv_astore_n (lv' := [(3, .ref (qx)), (0, .ref (AD 0)), (1, .int (x)), (2, .ref (ou))]) hx hb dL_seal_12 rfl hl (by decide) rfl (fun ls hl => ?_)
  refine lv_iconst (v := 1) hx hb dL_seal_13 (by decide +kernel) ?_
  exact hret _ _ _ _ hP hO hS dL_seal_14

set_option maxHeartbeats 4000000 in
set_option maxRecDepth 100000 in
/-- the law's own seal_s -/
theorem c_L_seal_s (l : Launch) (hlt : l.stackTraces = false) (g : gT) (AD : Nat → Nat) (LL : Nat → ltT) (EE : Nat → evT) (LN : Nat → Nat) (lc ec : Nat) (hlc : lc ≤ 12) (hec : ec ≤ 24) (hLL : ∀ i, i < 12 → (LL i).2.2 ≤ 40) (hEE : ∀ q, q < ec → (EE q).1 = nI (LN q) ∧ LN q < lc ∧ (EE q).2.2.1 ≤ 40 ∧ (EE q).2.2.2.1 ≤ 8) (k : Nat) (hk : k < lc) (he1 : ec = 24) (ou : Nat) (v : Int64) : lM g l yL_seal wsL_seal { frames := 8, cells := 1, slots := 6, locals := 125 } [.ref (AD 0), .int (nI k), .ref (ou)] (wsD g AD LL EE lc ec) ou v 2 (wsD g AD LL EE lc ec) (v) := by
  refine lr_of (cc := cL_seal) (maxL := 4) (by decide) rfl (Nat.le_of_ble_eq_true rfl) ?_
  intro p e s m args below meth c ls Q hx hb hml hts hown hK hZ hP hO hD hNo htab hl hret
  have hl : lv_has ls 4 [(0, .ref (AD 0)), (1, .int (nI k)), (2, .ref (ou))] := hl
  have S : CallFix p m c cL_seal 4 s args wsL_seal RL := ⟨hx, hb, hml, hown, hts⟩
  have hAo : ∀ k, k < 87 → ¬ AD k = ou := dk_no hNo
  refine lv_aload_n hx hb dL_seal_0 rfl (lv_at hl 2 rfl) ?_
  refine lv_iconst (v := 0) hx hb dL_seal_1 (by decide +kernel) ?_
  refine lv_aload_n hx hb dL_seal_2 rfl (lv_at hl 0 rfl) ?_
  refine lv_iload_n hx hb dL_seal_3 rfl (lv_at hl 1 rfl) ?_
  refine lx_V (E := "java/lang/IllegalStateException") (As := [.int (nI k)]) (rest := [.int (0), .ref (ou)]) S (c_X2_seal_s l hlt g AD LL EE LN lc ec hlc hec hLL hEE k hk he1) (cwV 1 hts gL_seal_X2_seal rfl rfl rfl (by decide +kernel) ⟨Nat.le_of_ble_eq_true rfl, Nat.le_of_ble_eq_true rfl⟩) hK hZ (va_recv hK.1 hP (ci := 2) (q0 := 0) rfl dk_me) hP rfl hl.1 rfl (Nat.le_of_ble_eq_true rfl) dL_seal_4 ⟨Nat.le_of_ble_eq_true rfl, Nat.le_of_ble_eq_true rfl⟩ [⟨0, 9, 12, 19⟩] ⟨0, 9, 15, 13⟩ [] htab (List.forall_mem_cons.mpr ⟨Or.inr ⟨by decide, "java/lang/IndexOutOfBoundsException", hts (.classLink RL 19 "java/lang/IndexOutOfBoundsException") (by decide +kernel), hK.2.2.2.2.2.2 ("java/lang/IllegalStateException", "java/lang/IndexOutOfBoundsException") (List.mem_of_getElem? (i := 1) rfl)⟩, fun _ h9 => absurd h9 List.not_mem_nil⟩) (by decide) (by decide) (hts (.classLink RL 13 "java/lang/IllegalStateException") (by decide +kernel)) (List.mem_of_getElem? (i := 2) rfl) (fun H qx hz1 hk1 => ?_)
  have hP := dk_old hP hk1
  have hO := out_old hO hk1
  have hS : va_S (lA (wsD g AD LL EE lc ec) ou) s.heap H [] := ⟨hz1, fun q h1 _ => hk1 q h1, fun q h => nomatch h⟩
  refine lv_astore_n (lv' := [(3, .ref (qx)), (0, .ref (AD 0)), (1, .int (nI k)), (2, .ref (ou))]) hx hb dL_seal_15 rfl hl (by decide) rfl (fun ls hl => ?_)
  refine lv_iconst (v := 2) hx hb dL_seal_16 (by decide +kernel) ?_
  exact hret _ _ _ _ hP hO hS dL_seal_17

set_option maxHeartbeats 4000000 in
set_option maxRecDepth 100000 in
/-- the law's own seal_t -/
theorem c_L_seal_t (l : Launch) (hlt : l.stackTraces = false) (g : gT) (AD : Nat → Nat) (LL : Nat → ltT) (EE : Nat → evT) (LN : Nat → Nat) (lc ec : Nat) (hlc : lc ≤ 12) (hec : ec ≤ 24) (hLL : ∀ i, i < 12 → (LL i).2.2 ≤ 40) (hEE : ∀ q, q < ec → (EE q).1 = nI (LN q) ∧ LN q < lc ∧ (EE q).2.2.1 ≤ 40 ∧ (EE q).2.2.2.1 ≤ 8) (k : Nat) (hk : k < lc) (he1 : ec < 24) (hn1 : (LL k).2.2 = 0) (ou : Nat) (v : Int64) : lM g l yL_seal wsL_seal { frames := 8, cells := 1, slots := 6, locals := 125 } [.ref (AD 0), .int (nI k), .ref (ou)] (wsD g AD LL EE lc ec) ou v 2 (wsD g AD LL EE lc ec) (v) := by
  refine lr_of (cc := cL_seal) (maxL := 4) (by decide) rfl (Nat.le_of_ble_eq_true rfl) ?_
  intro p e s m args below meth c ls Q hx hb hml hts hown hK hZ hP hO hD hNo htab hl hret
  have hl : lv_has ls 4 [(0, .ref (AD 0)), (1, .int (nI k)), (2, .ref (ou))] := hl
  have S : CallFix p m c cL_seal 4 s args wsL_seal RL := ⟨hx, hb, hml, hown, hts⟩
  have hAo : ∀ k, k < 87 → ¬ AD k = ou := dk_no hNo
  refine lv_aload_n hx hb dL_seal_0 rfl (lv_at hl 2 rfl) ?_
  refine lv_iconst (v := 0) hx hb dL_seal_1 (by decide +kernel) ?_
  refine lv_aload_n hx hb dL_seal_2 rfl (lv_at hl 0 rfl) ?_
  refine lv_iload_n hx hb dL_seal_3 rfl (lv_at hl 1 rfl) ?_
  refine lx_V (E := "java/lang/IllegalStateException") (As := [.int (nI k)]) (rest := [.int (0), .ref (ou)]) S (c_X2_seal_t l hlt g AD LL EE LN lc ec hlc hec hLL hEE k hk he1 hn1) (cwV 1 hts gL_seal_X2_seal rfl rfl rfl (by decide +kernel) ⟨Nat.le_of_ble_eq_true rfl, Nat.le_of_ble_eq_true rfl⟩) hK hZ (va_recv hK.1 hP (ci := 2) (q0 := 0) rfl dk_me) hP rfl hl.1 rfl (Nat.le_of_ble_eq_true rfl) dL_seal_4 ⟨Nat.le_of_ble_eq_true rfl, Nat.le_of_ble_eq_true rfl⟩ [⟨0, 9, 12, 19⟩] ⟨0, 9, 15, 13⟩ [] htab (List.forall_mem_cons.mpr ⟨Or.inr ⟨by decide, "java/lang/IndexOutOfBoundsException", hts (.classLink RL 19 "java/lang/IndexOutOfBoundsException") (by decide +kernel), hK.2.2.2.2.2.2 ("java/lang/IllegalStateException", "java/lang/IndexOutOfBoundsException") (List.mem_of_getElem? (i := 1) rfl)⟩, fun _ h9 => absurd h9 List.not_mem_nil⟩) (by decide) (by decide) (hts (.classLink RL 13 "java/lang/IllegalStateException") (by decide +kernel)) (List.mem_of_getElem? (i := 2) rfl) (fun H qx hz1 hk1 => ?_)
  have hP := dk_old hP hk1
  have hO := out_old hO hk1
  have hS : va_S (lA (wsD g AD LL EE lc ec) ou) s.heap H [] := ⟨hz1, fun q h1 _ => hk1 q h1, fun q h => nomatch h⟩
  refine lv_astore_n (lv' := [(3, .ref (qx)), (0, .ref (AD 0)), (1, .int (nI k)), (2, .ref (ou))]) hx hb dL_seal_15 rfl hl (by decide) rfl (fun ls hl => ?_)
  refine lv_iconst (v := 2) hx hb dL_seal_16 (by decide +kernel) ?_
  exact hret _ _ _ _ hP hO hS dL_seal_17

set_option maxHeartbeats 4000000 in
set_option maxRecDepth 100000 in
/-- the law's own unseal -/
theorem c_L_unseal (l : Launch) (g : gT) (AD : Nat → Nat) (LL : Nat → ltT) (EE : Nat → evT) (LN : Nat → Nat) (lc ec : Nat) (hlc : lc ≤ 12) (hec : ec ≤ 24) (hLL : ∀ i, i < 12 → (LL i).2.2 ≤ 40) (hEE : ∀ q, q < ec → (EE q).1 = nI (LN q) ∧ LN q < lc ∧ (EE q).2.2.1 ≤ 40 ∧ (EE q).2.2.2.1 ≤ 8) (he1 : 0 < ec) (ou : Nat) (v : Int64) : lM g l yL_unseal wsL_unseal { frames := 7, cells := 1, slots := 6, locals := 102 } [.ref (AD 0), .ref (ou)] (wsD g AD LL EE lc ec) ou v 0 (wsD g AD LL EE lc (ec - 1)) (((EE (ec - 1)).2.2.2.2.2.2.1).toInt64) := by
  refine lr_of (cc := cL_unseal) (maxL := 3) (by decide) rfl (Nat.le_of_ble_eq_true rfl) ?_
  intro p e s m args below meth c ls Q hx hb hml hts hown hK hZ hP hO hD hNo htab hl hret
  have hl : lv_has ls 3 [(0, .ref (AD 0)), (1, .ref (ou))] := hl
  have S : CallFix p m c cL_unseal 3 s args wsL_unseal RL := ⟨hx, hb, hml, hown, hts⟩
  have hAo : ∀ k, k < 87 → ¬ AD k = ou := dk_no hNo
  refine W.widen (Nat.zero_le 1) (Nat.zero_le 6) ?_
  refine lv_aload_n hx hb dL_unseal_0 rfl (lv_at hl 1 rfl) ?_
  refine lv_iconst (v := 0) hx hb dL_unseal_1 (by decide +kernel) ?_
  refine lv_aload_n hx hb dL_unseal_2 rfl (lv_at hl 0 rfl) ?_
  obtain ⟨H, eH⟩ : ∃ H : Heap, H = s.heap := ⟨_, rfl⟩
  have hS : va_S (lA (wsD g AD LL EE lc ec) ou) s.heap H [] := by rw [eH]; exact va_S.rf
  rw [← eH] at hP hO
  rw [← eH]
  refine w_V (As := []) (rest := [.int (0), .ref (ou)]) S (c_X2_unseal l g AD LL EE LN lc ec hlc hec hLL hEE he1) (cwV 0 hts gL_unseal_X2_unseal rfl rfl rfl (by decide +kernel) ⟨Nat.le_of_ble_eq_true rfl, Nat.le_of_ble_eq_true rfl⟩) hK (va_recv hK.1 hP (ci := 2) (q0 := 0) rfl dk_me) hP hD hS (fun q h9 => Or.inl h9) rfl hl.1 rfl (Nat.le_of_ble_eq_true rfl) dL_unseal_3 ⟨Nat.le_of_ble_eq_true rfl, Nat.le_of_ble_eq_true rfl⟩ (fun H locs hP hz1 hk1 hS => ?_)
  have hO := out_kept hO hk1 hNo
  refine lv_i2l (v := ((EE (ec - 1)).2.2.2.2.2.2.1).toInt64) hx hb dL_unseal_6 rfl ?_
  refine st_J (o := ou) (cA := gJ g) (v := v) (x := ((EE (ec - 1)).2.2.2.2.2.2.1).toInt64) (A := lA (wsD g AD LL EE lc ec) ou) hx hb hK.1 hO (Or.inr rfl) hS 3 rfl dL_unseal_7 (fun H locs hO hk2 hS => ?_)
  have hP := dk_keep hP hk2 hAo
  refine lv_goto (tgt := 14) hx hb dL_unseal_8 (by decide) ?_
  refine lv_iconst (v := 0) hx hb dL_unseal_14 (by decide +kernel) ?_
  exact hret _ _ _ _ hP hO hS dL_unseal_15

set_option maxHeartbeats 4000000 in
set_option maxRecDepth 100000 in
/-- the law's own unseal_s -/
theorem c_L_unseal_s (l : Launch) (hlt : l.stackTraces = false) (g : gT) (AD : Nat → Nat) (LL : Nat → ltT) (EE : Nat → evT) (LN : Nat → Nat) (lc ec : Nat) (hlc : lc ≤ 12) (hec : ec ≤ 24) (hLL : ∀ i, i < 12 → (LL i).2.2 ≤ 40) (hEE : ∀ q, q < ec → (EE q).1 = nI (LN q) ∧ LN q < lc ∧ (EE q).2.2.1 ≤ 40 ∧ (EE q).2.2.2.1 ≤ 8) (he1 : ec = 0) (ou : Nat) (v : Int64) : lM g l yL_unseal wsL_unseal { frames := 7, cells := 1, slots := 6, locals := 102 } [.ref (AD 0), .ref (ou)] (wsD g AD LL EE lc ec) ou v 1 (wsD g AD LL EE lc ec) (v) := by
  refine lr_of (cc := cL_unseal) (maxL := 3) (by decide) rfl (Nat.le_of_ble_eq_true rfl) ?_
  intro p e s m args below meth c ls Q hx hb hml hts hown hK hZ hP hO hD hNo htab hl hret
  have hl : lv_has ls 3 [(0, .ref (AD 0)), (1, .ref (ou))] := hl
  have S : CallFix p m c cL_unseal 3 s args wsL_unseal RL := ⟨hx, hb, hml, hown, hts⟩
  have hAo : ∀ k, k < 87 → ¬ AD k = ou := dk_no hNo
  refine lv_aload_n hx hb dL_unseal_0 rfl (lv_at hl 1 rfl) ?_
  refine lv_iconst (v := 0) hx hb dL_unseal_1 (by decide +kernel) ?_
  refine lv_aload_n hx hb dL_unseal_2 rfl (lv_at hl 0 rfl) ?_
  refine lx_V (E := "java/lang/IllegalStateException") (As := []) (rest := [.int (0), .ref (ou)]) S (c_X2_unseal_s l hlt g AD LL EE LN lc ec hlc hec hLL hEE he1) (cwV 0 hts gL_unseal_X2_unseal rfl rfl rfl (by decide +kernel) ⟨Nat.le_of_ble_eq_true rfl, Nat.le_of_ble_eq_true rfl⟩) hK hZ (va_recv hK.1 hP (ci := 2) (q0 := 0) rfl dk_me) hP rfl hl.1 rfl (Nat.le_of_ble_eq_true rfl) dL_unseal_3 ⟨Nat.le_of_ble_eq_true rfl, Nat.le_of_ble_eq_true rfl⟩ [] ⟨0, 8, 11, 13⟩ [] htab (fun _ h9 => absurd h9 List.not_mem_nil) (by decide) (by decide) (hts (.classLink RL 13 "java/lang/IllegalStateException") (by decide +kernel)) (List.mem_of_getElem? (i := 2) rfl) (fun H qx hz1 hk1 => ?_)
  have hP := dk_old hP hk1
  have hO := out_old hO hk1
  have hS : va_S (lA (wsD g AD LL EE lc ec) ou) s.heap H [] := ⟨hz1, fun q h1 _ => hk1 q h1, fun q h => nomatch h⟩
  refine lv_astore_n (lv' := [(2, .ref (qx)), (0, .ref (AD 0)), (1, .ref (ou))]) hx hb dL_unseal_11 rfl hl (by decide) rfl (fun ls hl => ?_)
  refine lv_iconst (v := 1) hx hb dL_unseal_12 (by decide +kernel) ?_
  exact hret _ _ _ _ hP hO hS dL_unseal_13

set_option maxHeartbeats 4000000 in
set_option maxRecDepth 100000 in
/-- the law's own signsOf -/
theorem c_L_signsOf (l : Launch) (g : gT) (AD : Nat → Nat) (LL : Nat → ltT) (EE : Nat → evT) (LN : Nat → Nat) (lc ec : Nat) (hlc : lc ≤ 12) (hec : ec ≤ 24) (hLL : ∀ i, i < 12 → (LL i).2.2 ≤ 40) (hEE : ∀ q, q < ec → (EE q).1 = nI (LN q) ∧ LN q < lc ∧ (EE q).2.2.1 ≤ 40 ∧ (EE q).2.2.2.1 ≤ 8) (k : Nat) (hk : k < lc) (ou : Nat) (v : Int64) : lM g l yL_signsOf wsL_signsOf { frames := 8, cells := 1, slots := 6, locals := 124 } [.ref (AD 0), .int (nI k), .ref (ou)] (wsD g AD LL EE lc ec) ou v 0 (wsD g AD LL EE lc ec) ((nI ((LL k).2.2)).toInt64) := by
  refine lr_of (cc := cL_signsOf) (maxL := 4) (by decide) rfl (Nat.le_of_ble_eq_true rfl) ?_
  intro p e s m args below meth c ls Q hx hb hml hts hown hK hZ hP hO hD hNo htab hl hret
  have hl : lv_has ls 4 [(0, .ref (AD 0)), (1, .int (nI k)), (2, .ref (ou))] := hl
  have S : CallFix p m c cL_signsOf 4 s args wsL_signsOf RL := ⟨hx, hb, hml, hown, hts⟩
  have hAo : ∀ k, k < 87 → ¬ AD k = ou := dk_no hNo
  refine W.widen (Nat.zero_le 1) (Nat.zero_le 6) ?_
  refine lv_aload_n hx hb dL_signsOf_0 rfl (lv_at hl 2 rfl) ?_
  refine lv_iconst (v := 0) hx hb dL_signsOf_1 (by decide +kernel) ?_
  refine lv_aload_n hx hb dL_signsOf_2 rfl (lv_at hl 0 rfl) ?_
  refine lv_iload_n hx hb dL_signsOf_3 rfl (lv_at hl 1 rfl) ?_
  obtain ⟨H, eH⟩ : ∃ H : Heap, H = s.heap := ⟨_, rfl⟩
  have hS : va_S (lA (wsD g AD LL EE lc ec) ou) s.heap H [] := by rw [eH]; exact va_S.rf
  rw [← eH] at hP hO
  rw [← eH]
  refine p_V (As := [.int (nI k)]) (rest := [.int (0), .ref (ou)]) S (c_X2_signsOf l g AD LL EE LN lc ec hlc hec hLL hEE k hk) (cwV 1 hts gL_signsOf_X2_signsOf rfl rfl rfl (by decide +kernel) ⟨Nat.le_of_ble_eq_true rfl, Nat.le_of_ble_eq_true rfl⟩) hK (va_recv hK.1 hP (ci := 2) (q0 := 0) rfl dk_me) hP rfl hl.1 rfl (Nat.le_of_ble_eq_true rfl) dL_signsOf_4 ⟨Nat.le_of_ble_eq_true rfl, Nat.le_of_ble_eq_true rfl⟩ ?_
  refine lv_i2l (v := (nI ((LL k).2.2)).toInt64) hx hb dL_signsOf_7 rfl ?_
  refine st_J (o := ou) (cA := gJ g) (v := v) (x := (nI ((LL k).2.2)).toInt64) (A := lA (wsD g AD LL EE lc ec) ou) hx hb hK.1 hO (Or.inr rfl) hS 3 rfl dL_signsOf_8 (fun H locs hO hk2 hS => ?_)
  have hP := dk_keep hP hk2 hAo
  refine lv_goto (tgt := 15) hx hb dL_signsOf_9 (by decide) ?_
  refine lv_iconst (v := 0) hx hb dL_signsOf_15 (by decide +kernel) ?_
  exact hret _ _ _ _ hP hO hS dL_signsOf_16

set_option maxHeartbeats 4000000 in
set_option maxRecDepth 100000 in
/-- the law's own signsOf_x -/
theorem c_L_signsOf_x (l : Launch) (hlt : l.stackTraces = false) (g : gT) (AD : Nat → Nat) (LL : Nat → ltT) (EE : Nat → evT) (LN : Nat → Nat) (lc ec : Nat) (hlc : lc ≤ 12) (hec : ec ≤ 24) (hLL : ∀ i, i < 12 → (LL i).2.2 ≤ 40) (hEE : ∀ q, q < ec → (EE q).1 = nI (LN q) ∧ LN q < lc ∧ (EE q).2.2.1 ≤ 40 ∧ (EE q).2.2.2.1 ≤ 8) (x : Int32) (hxb : inB x lc = false) (ou : Nat) (v : Int64) : lM g l yL_signsOf wsL_signsOf { frames := 8, cells := 1, slots := 6, locals := 124 } [.ref (AD 0), .int (x), .ref (ou)] (wsD g AD LL EE lc ec) ou v 1 (wsD g AD LL EE lc ec) (v) := by
  refine lr_of (cc := cL_signsOf) (maxL := 4) (by decide) rfl (Nat.le_of_ble_eq_true rfl) ?_
  intro p e s m args below meth c ls Q hx hb hml hts hown hK hZ hP hO hD hNo htab hl hret
  have hl : lv_has ls 4 [(0, .ref (AD 0)), (1, .int (x)), (2, .ref (ou))] := hl
  have S : CallFix p m c cL_signsOf 4 s args wsL_signsOf RL := ⟨hx, hb, hml, hown, hts⟩
  have hAo : ∀ k, k < 87 → ¬ AD k = ou := dk_no hNo
  refine lv_aload_n hx hb dL_signsOf_0 rfl (lv_at hl 2 rfl) ?_
  refine lv_iconst (v := 0) hx hb dL_signsOf_1 (by decide +kernel) ?_
  refine lv_aload_n hx hb dL_signsOf_2 rfl (lv_at hl 0 rfl) ?_
  refine lv_iload_n hx hb dL_signsOf_3 rfl (lv_at hl 1 rfl) ?_
  refine lx_V (E := "java/lang/IndexOutOfBoundsException") (As := [.int (x)]) (rest := [.int (0), .ref (ou)]) S (c_X2_signsOf_x l hlt g AD LL EE LN lc ec hlc hec hLL hEE x hxb) (cwV 1 hts gL_signsOf_X2_signsOf rfl rfl rfl (by decide +kernel) ⟨Nat.le_of_ble_eq_true rfl, Nat.le_of_ble_eq_true rfl⟩) hK hZ (va_recv hK.1 hP (ci := 2) (q0 := 0) rfl dk_me) hP rfl hl.1 rfl (Nat.le_of_ble_eq_true rfl) dL_signsOf_4 ⟨Nat.le_of_ble_eq_true rfl, Nat.le_of_ble_eq_true rfl⟩ [] ⟨0, 9, 12, 19⟩ [] htab (fun _ h9 => absurd h9 List.not_mem_nil) (by decide) (by decide) (hts (.classLink RL 19 "java/lang/IndexOutOfBoundsException") (by decide +kernel)) (List.mem_of_getElem? (i := 0) rfl) (fun H qx hz1 hk1 => ?_)
  have hP := dk_old hP hk1
  have hO := out_old hO hk1
  have hS : va_S (lA (wsD g AD LL EE lc ec) ou) s.heap H [] := ⟨hz1, fun q h1 _ => hk1 q h1, fun q h => nomatch h⟩
  refine lv_astore_n (lv' := [(3, .ref (qx)), (0, .ref (AD 0)), (1, .int (x)), (2, .ref (ou))]) hx hb dL_signsOf_12 rfl hl (by decide) rfl (fun ls hl => ?_)
  refine lv_iconst (v := 1) hx hb dL_signsOf_13 (by decide +kernel) ?_
  exact hret _ _ _ _ hP hO hS dL_signsOf_14

set_option maxHeartbeats 4000000 in
set_option maxRecDepth 100000 in
/-- the law's own commasOf -/
theorem c_L_commasOf (l : Launch) (g : gT) (AD : Nat → Nat) (LL : Nat → ltT) (EE : Nat → evT) (LN : Nat → Nat) (lc ec : Nat) (hlc : lc ≤ 12) (hec : ec ≤ 24) (hLL : ∀ i, i < 12 → (LL i).2.2 ≤ 40) (hEE : ∀ q, q < ec → (EE q).1 = nI (LN q) ∧ LN q < lc ∧ (EE q).2.2.1 ≤ 40 ∧ (EE q).2.2.2.1 ≤ 8) (k : Nat) (hk : k < lc) (ou : Nat) (v : Int64) : lM g l yL_commasOf wsL_commasOf { frames := 8, cells := 1, slots := 6, locals := 124 } [.ref (AD 0), .int (nI k), .ref (ou)] (wsD g AD LL EE lc ec) ou v 0 (wsD g AD LL EE lc ec) ((cntF ((LL k).1) 27 ((LL k).2.2)).toInt64) := by
  refine lr_of (cc := cL_commasOf) (maxL := 4) (by decide) rfl (Nat.le_of_ble_eq_true rfl) ?_
  intro p e s m args below meth c ls Q hx hb hml hts hown hK hZ hP hO hD hNo htab hl hret
  have hl : lv_has ls 4 [(0, .ref (AD 0)), (1, .int (nI k)), (2, .ref (ou))] := hl
  have S : CallFix p m c cL_commasOf 4 s args wsL_commasOf RL := ⟨hx, hb, hml, hown, hts⟩
  have hAo : ∀ k, k < 87 → ¬ AD k = ou := dk_no hNo
  refine W.widen (Nat.zero_le 1) (Nat.zero_le 6) ?_
  refine lv_aload_n hx hb dL_commasOf_0 rfl (lv_at hl 2 rfl) ?_
  refine lv_iconst (v := 0) hx hb dL_commasOf_1 (by decide +kernel) ?_
  refine lv_aload_n hx hb dL_commasOf_2 rfl (lv_at hl 0 rfl) ?_
  refine lv_iload_n hx hb dL_commasOf_3 rfl (lv_at hl 1 rfl) ?_
  obtain ⟨H, eH⟩ : ∃ H : Heap, H = s.heap := ⟨_, rfl⟩
  have hS : va_S (lA (wsD g AD LL EE lc ec) ou) s.heap H [] := by rw [eH]; exact va_S.rf
  rw [← eH] at hP hO
  rw [← eH]
  refine p_V (As := [.int (nI k)]) (rest := [.int (0), .ref (ou)]) S (c_X2_commasOf l g AD LL EE LN lc ec hlc hec hLL hEE k hk) (cwV 1 hts gL_commasOf_X2_commasOf rfl rfl rfl (by decide +kernel) ⟨Nat.le_of_ble_eq_true rfl, Nat.le_of_ble_eq_true rfl⟩) hK (va_recv hK.1 hP (ci := 2) (q0 := 0) rfl dk_me) hP rfl hl.1 rfl (Nat.le_of_ble_eq_true rfl) dL_commasOf_4 ⟨Nat.le_of_ble_eq_true rfl, Nat.le_of_ble_eq_true rfl⟩ ?_
  refine lv_i2l (v := (cntF ((LL k).1) 27 ((LL k).2.2)).toInt64) hx hb dL_commasOf_7 rfl ?_
  refine st_J (o := ou) (cA := gJ g) (v := v) (x := (cntF ((LL k).1) 27 ((LL k).2.2)).toInt64) (A := lA (wsD g AD LL EE lc ec) ou) hx hb hK.1 hO (Or.inr rfl) hS 3 rfl dL_commasOf_8 (fun H locs hO hk2 hS => ?_)
  have hP := dk_keep hP hk2 hAo
  refine lv_goto (tgt := 15) hx hb dL_commasOf_9 (by decide) ?_
  refine lv_iconst (v := 0) hx hb dL_commasOf_15 (by decide +kernel) ?_
  exact hret _ _ _ _ hP hO hS dL_commasOf_16

set_option maxHeartbeats 4000000 in
set_option maxRecDepth 100000 in
/-- the law's own commasOf_x -/
theorem c_L_commasOf_x (l : Launch) (hlt : l.stackTraces = false) (g : gT) (AD : Nat → Nat) (LL : Nat → ltT) (EE : Nat → evT) (LN : Nat → Nat) (lc ec : Nat) (hlc : lc ≤ 12) (hec : ec ≤ 24) (hLL : ∀ i, i < 12 → (LL i).2.2 ≤ 40) (hEE : ∀ q, q < ec → (EE q).1 = nI (LN q) ∧ LN q < lc ∧ (EE q).2.2.1 ≤ 40 ∧ (EE q).2.2.2.1 ≤ 8) (x : Int32) (hxb : inB x lc = false) (ou : Nat) (v : Int64) : lM g l yL_commasOf wsL_commasOf { frames := 8, cells := 1, slots := 6, locals := 124 } [.ref (AD 0), .int (x), .ref (ou)] (wsD g AD LL EE lc ec) ou v 1 (wsD g AD LL EE lc ec) (v) := by
  refine lr_of (cc := cL_commasOf) (maxL := 4) (by decide) rfl (Nat.le_of_ble_eq_true rfl) ?_
  intro p e s m args below meth c ls Q hx hb hml hts hown hK hZ hP hO hD hNo htab hl hret
  have hl : lv_has ls 4 [(0, .ref (AD 0)), (1, .int (x)), (2, .ref (ou))] := hl
  have S : CallFix p m c cL_commasOf 4 s args wsL_commasOf RL := ⟨hx, hb, hml, hown, hts⟩
  have hAo : ∀ k, k < 87 → ¬ AD k = ou := dk_no hNo
  refine lv_aload_n hx hb dL_commasOf_0 rfl (lv_at hl 2 rfl) ?_
  refine lv_iconst (v := 0) hx hb dL_commasOf_1 (by decide +kernel) ?_
  refine lv_aload_n hx hb dL_commasOf_2 rfl (lv_at hl 0 rfl) ?_
  refine lv_iload_n hx hb dL_commasOf_3 rfl (lv_at hl 1 rfl) ?_
  refine lx_V (E := "java/lang/IndexOutOfBoundsException") (As := [.int (x)]) (rest := [.int (0), .ref (ou)]) S (c_X2_commasOf_x l hlt g AD LL EE LN lc ec hlc hec hLL hEE x hxb) (cwV 1 hts gL_commasOf_X2_commasOf rfl rfl rfl (by decide +kernel) ⟨Nat.le_of_ble_eq_true rfl, Nat.le_of_ble_eq_true rfl⟩) hK hZ (va_recv hK.1 hP (ci := 2) (q0 := 0) rfl dk_me) hP rfl hl.1 rfl (Nat.le_of_ble_eq_true rfl) dL_commasOf_4 ⟨Nat.le_of_ble_eq_true rfl, Nat.le_of_ble_eq_true rfl⟩ [] ⟨0, 9, 12, 19⟩ [] htab (fun _ h9 => absurd h9 List.not_mem_nil) (by decide) (by decide) (hts (.classLink RL 19 "java/lang/IndexOutOfBoundsException") (by decide +kernel)) (List.mem_of_getElem? (i := 0) rfl) (fun H qx hz1 hk1 => ?_)
  have hP := dk_old hP hk1
  have hO := out_old hO hk1
  have hS : va_S (lA (wsD g AD LL EE lc ec) ou) s.heap H [] := ⟨hz1, fun q h1 _ => hk1 q h1, fun q h => nomatch h⟩
  refine lv_astore_n (lv' := [(3, .ref (qx)), (0, .ref (AD 0)), (1, .int (x)), (2, .ref (ou))]) hx hb dL_commasOf_12 rfl hl (by decide) rfl (fun ls hl => ?_)
  refine lv_iconst (v := 1) hx hb dL_commasOf_13 (by decide +kernel) ?_
  exact hret _ _ _ _ hP hO hS dL_commasOf_14

set_option maxHeartbeats 4000000 in
set_option maxRecDepth 100000 in
/-- the law's own tearsOf -/
theorem c_L_tearsOf (l : Launch) (g : gT) (AD : Nat → Nat) (LL : Nat → ltT) (EE : Nat → evT) (LN : Nat → Nat) (lc ec : Nat) (hlc : lc ≤ 12) (hec : ec ≤ 24) (hLL : ∀ i, i < 12 → (LL i).2.2 ≤ 40) (hEE : ∀ q, q < ec → (EE q).1 = nI (LN q) ∧ LN q < lc ∧ (EE q).2.2.1 ≤ 40 ∧ (EE q).2.2.2.1 ≤ 8) (k : Nat) (hk : k < lc) (ou : Nat) (v : Int64) : lM g l yL_tearsOf wsL_tearsOf { frames := 8, cells := 1, slots := 6, locals := 124 } [.ref (AD 0), .int (nI k), .ref (ou)] (wsD g AD LL EE lc ec) ou v 0 (wsD g AD LL EE lc ec) ((cntF ((LL k).1) 30 ((LL k).2.2)).toInt64) := by
  refine lr_of (cc := cL_tearsOf) (maxL := 4) (by decide) rfl (Nat.le_of_ble_eq_true rfl) ?_
  intro p e s m args below meth c ls Q hx hb hml hts hown hK hZ hP hO hD hNo htab hl hret
  have hl : lv_has ls 4 [(0, .ref (AD 0)), (1, .int (nI k)), (2, .ref (ou))] := hl
  have S : CallFix p m c cL_tearsOf 4 s args wsL_tearsOf RL := ⟨hx, hb, hml, hown, hts⟩
  have hAo : ∀ k, k < 87 → ¬ AD k = ou := dk_no hNo
  refine W.widen (Nat.zero_le 1) (Nat.zero_le 6) ?_
  refine lv_aload_n hx hb dL_tearsOf_0 rfl (lv_at hl 2 rfl) ?_
  refine lv_iconst (v := 0) hx hb dL_tearsOf_1 (by decide +kernel) ?_
  refine lv_aload_n hx hb dL_tearsOf_2 rfl (lv_at hl 0 rfl) ?_
  refine lv_iload_n hx hb dL_tearsOf_3 rfl (lv_at hl 1 rfl) ?_
  obtain ⟨H, eH⟩ : ∃ H : Heap, H = s.heap := ⟨_, rfl⟩
  have hS : va_S (lA (wsD g AD LL EE lc ec) ou) s.heap H [] := by rw [eH]; exact va_S.rf
  rw [← eH] at hP hO
  rw [← eH]
  refine p_V (As := [.int (nI k)]) (rest := [.int (0), .ref (ou)]) S (c_X2_tearsOf l g AD LL EE LN lc ec hlc hec hLL hEE k hk) (cwV 1 hts gL_tearsOf_X2_tearsOf rfl rfl rfl (by decide +kernel) ⟨Nat.le_of_ble_eq_true rfl, Nat.le_of_ble_eq_true rfl⟩) hK (va_recv hK.1 hP (ci := 2) (q0 := 0) rfl dk_me) hP rfl hl.1 rfl (Nat.le_of_ble_eq_true rfl) dL_tearsOf_4 ⟨Nat.le_of_ble_eq_true rfl, Nat.le_of_ble_eq_true rfl⟩ ?_
  refine lv_i2l (v := (cntF ((LL k).1) 30 ((LL k).2.2)).toInt64) hx hb dL_tearsOf_7 rfl ?_
  refine st_J (o := ou) (cA := gJ g) (v := v) (x := (cntF ((LL k).1) 30 ((LL k).2.2)).toInt64) (A := lA (wsD g AD LL EE lc ec) ou) hx hb hK.1 hO (Or.inr rfl) hS 3 rfl dL_tearsOf_8 (fun H locs hO hk2 hS => ?_)
  have hP := dk_keep hP hk2 hAo
  refine lv_goto (tgt := 15) hx hb dL_tearsOf_9 (by decide) ?_
  refine lv_iconst (v := 0) hx hb dL_tearsOf_15 (by decide +kernel) ?_
  exact hret _ _ _ _ hP hO hS dL_tearsOf_16

set_option maxHeartbeats 4000000 in
set_option maxRecDepth 100000 in
/-- the law's own tearsOf_x -/
theorem c_L_tearsOf_x (l : Launch) (hlt : l.stackTraces = false) (g : gT) (AD : Nat → Nat) (LL : Nat → ltT) (EE : Nat → evT) (LN : Nat → Nat) (lc ec : Nat) (hlc : lc ≤ 12) (hec : ec ≤ 24) (hLL : ∀ i, i < 12 → (LL i).2.2 ≤ 40) (hEE : ∀ q, q < ec → (EE q).1 = nI (LN q) ∧ LN q < lc ∧ (EE q).2.2.1 ≤ 40 ∧ (EE q).2.2.2.1 ≤ 8) (x : Int32) (hxb : inB x lc = false) (ou : Nat) (v : Int64) : lM g l yL_tearsOf wsL_tearsOf { frames := 8, cells := 1, slots := 6, locals := 124 } [.ref (AD 0), .int (x), .ref (ou)] (wsD g AD LL EE lc ec) ou v 1 (wsD g AD LL EE lc ec) (v) := by
  refine lr_of (cc := cL_tearsOf) (maxL := 4) (by decide) rfl (Nat.le_of_ble_eq_true rfl) ?_
  intro p e s m args below meth c ls Q hx hb hml hts hown hK hZ hP hO hD hNo htab hl hret
  have hl : lv_has ls 4 [(0, .ref (AD 0)), (1, .int (x)), (2, .ref (ou))] := hl
  have S : CallFix p m c cL_tearsOf 4 s args wsL_tearsOf RL := ⟨hx, hb, hml, hown, hts⟩
  have hAo : ∀ k, k < 87 → ¬ AD k = ou := dk_no hNo
  refine lv_aload_n hx hb dL_tearsOf_0 rfl (lv_at hl 2 rfl) ?_
  refine lv_iconst (v := 0) hx hb dL_tearsOf_1 (by decide +kernel) ?_
  refine lv_aload_n hx hb dL_tearsOf_2 rfl (lv_at hl 0 rfl) ?_
  refine lv_iload_n hx hb dL_tearsOf_3 rfl (lv_at hl 1 rfl) ?_
  refine lx_V (E := "java/lang/IndexOutOfBoundsException") (As := [.int (x)]) (rest := [.int (0), .ref (ou)]) S (c_X2_tearsOf_x l hlt g AD LL EE LN lc ec hlc hec hLL hEE x hxb) (cwV 1 hts gL_tearsOf_X2_tearsOf rfl rfl rfl (by decide +kernel) ⟨Nat.le_of_ble_eq_true rfl, Nat.le_of_ble_eq_true rfl⟩) hK hZ (va_recv hK.1 hP (ci := 2) (q0 := 0) rfl dk_me) hP rfl hl.1 rfl (Nat.le_of_ble_eq_true rfl) dL_tearsOf_4 ⟨Nat.le_of_ble_eq_true rfl, Nat.le_of_ble_eq_true rfl⟩ [] ⟨0, 9, 12, 19⟩ [] htab (fun _ h9 => absurd h9 List.not_mem_nil) (by decide) (by decide) (hts (.classLink RL 19 "java/lang/IndexOutOfBoundsException") (by decide +kernel)) (List.mem_of_getElem? (i := 0) rfl) (fun H qx hz1 hk1 => ?_)
  have hP := dk_old hP hk1
  have hO := out_old hO hk1
  have hS : va_S (lA (wsD g AD LL EE lc ec) ou) s.heap H [] := ⟨hz1, fun q h1 _ => hk1 q h1, fun q h => nomatch h⟩
  refine lv_astore_n (lv' := [(3, .ref (qx)), (0, .ref (AD 0)), (1, .int (x)), (2, .ref (ou))]) hx hb dL_tearsOf_12 rfl hl (by decide) rfl (fun ls hl => ?_)
  refine lv_iconst (v := 1) hx hb dL_tearsOf_13 (by decide +kernel) ?_
  exact hret _ _ _ _ hP hO hS dL_tearsOf_14

set_option maxHeartbeats 4000000 in
set_option maxRecDepth 100000 in
/-- the law's own digestOf -/
theorem c_L_digestOf (l : Launch) (g : gT) (AD : Nat → Nat) (LL : Nat → ltT) (EE : Nat → evT) (LN : Nat → Nat) (lc ec : Nat) (hlc : lc ≤ 12) (hec : ec ≤ 24) (hLL : ∀ i, i < 12 → (LL i).2.2 ≤ 40) (hEE : ∀ q, q < ec → (EE q).1 = nI (LN q) ∧ LN q < lc ∧ (EE q).2.2.1 ≤ 40 ∧ (EE q).2.2.2.1 ≤ 8) (k : Nat) (hk : k < lc) (ou : Nat) (v : Int64) : lM g l yL_digestOf wsL_digestOf { frames := 8, cells := 1, slots := 6, locals := 124 } [.ref (AD 0), .int (nI k), .ref (ou)] (wsD g AD LL EE lc ec) ou v 0 (wsD g AD LL EE lc ec) ((dgF ((LL k).1) ((LL k).2.2)).toInt64) := by
  refine lr_of (cc := cL_digestOf) (maxL := 4) (by decide) rfl (Nat.le_of_ble_eq_true rfl) ?_
  intro p e s m args below meth c ls Q hx hb hml hts hown hK hZ hP hO hD hNo htab hl hret
  have hl : lv_has ls 4 [(0, .ref (AD 0)), (1, .int (nI k)), (2, .ref (ou))] := hl
  have S : CallFix p m c cL_digestOf 4 s args wsL_digestOf RL := ⟨hx, hb, hml, hown, hts⟩
  have hAo : ∀ k, k < 87 → ¬ AD k = ou := dk_no hNo
  refine W.widen (Nat.zero_le 1) (Nat.zero_le 6) ?_
  refine lv_aload_n hx hb dL_digestOf_0 rfl (lv_at hl 2 rfl) ?_
  refine lv_iconst (v := 0) hx hb dL_digestOf_1 (by decide +kernel) ?_
  refine lv_aload_n hx hb dL_digestOf_2 rfl (lv_at hl 0 rfl) ?_
  refine lv_iload_n hx hb dL_digestOf_3 rfl (lv_at hl 1 rfl) ?_
  obtain ⟨H, eH⟩ : ∃ H : Heap, H = s.heap := ⟨_, rfl⟩
  have hS : va_S (lA (wsD g AD LL EE lc ec) ou) s.heap H [] := by rw [eH]; exact va_S.rf
  rw [← eH] at hP hO
  rw [← eH]
  refine p_V (As := [.int (nI k)]) (rest := [.int (0), .ref (ou)]) S (c_X2_digestOf l g AD LL EE LN lc ec hlc hec hLL hEE k hk) (cwV 1 hts gL_digestOf_X2_digestOf rfl rfl rfl (by decide +kernel) ⟨Nat.le_of_ble_eq_true rfl, Nat.le_of_ble_eq_true rfl⟩) hK (va_recv hK.1 hP (ci := 2) (q0 := 0) rfl dk_me) hP rfl hl.1 rfl (Nat.le_of_ble_eq_true rfl) dL_digestOf_4 ⟨Nat.le_of_ble_eq_true rfl, Nat.le_of_ble_eq_true rfl⟩ ?_
  refine lv_i2l (v := (dgF ((LL k).1) ((LL k).2.2)).toInt64) hx hb dL_digestOf_7 rfl ?_
  refine st_J (o := ou) (cA := gJ g) (v := v) (x := (dgF ((LL k).1) ((LL k).2.2)).toInt64) (A := lA (wsD g AD LL EE lc ec) ou) hx hb hK.1 hO (Or.inr rfl) hS 3 rfl dL_digestOf_8 (fun H locs hO hk2 hS => ?_)
  have hP := dk_keep hP hk2 hAo
  refine lv_goto (tgt := 15) hx hb dL_digestOf_9 (by decide) ?_
  refine lv_iconst (v := 0) hx hb dL_digestOf_15 (by decide +kernel) ?_
  exact hret _ _ _ _ hP hO hS dL_digestOf_16

set_option maxHeartbeats 4000000 in
set_option maxRecDepth 100000 in
/-- the law's own digestOf_x -/
theorem c_L_digestOf_x (l : Launch) (hlt : l.stackTraces = false) (g : gT) (AD : Nat → Nat) (LL : Nat → ltT) (EE : Nat → evT) (LN : Nat → Nat) (lc ec : Nat) (hlc : lc ≤ 12) (hec : ec ≤ 24) (hLL : ∀ i, i < 12 → (LL i).2.2 ≤ 40) (hEE : ∀ q, q < ec → (EE q).1 = nI (LN q) ∧ LN q < lc ∧ (EE q).2.2.1 ≤ 40 ∧ (EE q).2.2.2.1 ≤ 8) (x : Int32) (hxb : inB x lc = false) (ou : Nat) (v : Int64) : lM g l yL_digestOf wsL_digestOf { frames := 8, cells := 1, slots := 6, locals := 124 } [.ref (AD 0), .int (x), .ref (ou)] (wsD g AD LL EE lc ec) ou v 1 (wsD g AD LL EE lc ec) (v) := by
  refine lr_of (cc := cL_digestOf) (maxL := 4) (by decide) rfl (Nat.le_of_ble_eq_true rfl) ?_
  intro p e s m args below meth c ls Q hx hb hml hts hown hK hZ hP hO hD hNo htab hl hret
  have hl : lv_has ls 4 [(0, .ref (AD 0)), (1, .int (x)), (2, .ref (ou))] := hl
  have S : CallFix p m c cL_digestOf 4 s args wsL_digestOf RL := ⟨hx, hb, hml, hown, hts⟩
  have hAo : ∀ k, k < 87 → ¬ AD k = ou := dk_no hNo
  refine lv_aload_n hx hb dL_digestOf_0 rfl (lv_at hl 2 rfl) ?_
  refine lv_iconst (v := 0) hx hb dL_digestOf_1 (by decide +kernel) ?_
  refine lv_aload_n hx hb dL_digestOf_2 rfl (lv_at hl 0 rfl) ?_
  refine lv_iload_n hx hb dL_digestOf_3 rfl (lv_at hl 1 rfl) ?_
  refine lx_V (E := "java/lang/IndexOutOfBoundsException") (As := [.int (x)]) (rest := [.int (0), .ref (ou)]) S (c_X2_digestOf_x l hlt g AD LL EE LN lc ec hlc hec hLL hEE x hxb) (cwV 1 hts gL_digestOf_X2_digestOf rfl rfl rfl (by decide +kernel) ⟨Nat.le_of_ble_eq_true rfl, Nat.le_of_ble_eq_true rfl⟩) hK hZ (va_recv hK.1 hP (ci := 2) (q0 := 0) rfl dk_me) hP rfl hl.1 rfl (Nat.le_of_ble_eq_true rfl) dL_digestOf_4 ⟨Nat.le_of_ble_eq_true rfl, Nat.le_of_ble_eq_true rfl⟩ [] ⟨0, 9, 12, 19⟩ [] htab (fun _ h9 => absurd h9 List.not_mem_nil) (by decide) (by decide) (hts (.classLink RL 19 "java/lang/IndexOutOfBoundsException") (by decide +kernel)) (List.mem_of_getElem? (i := 0) rfl) (fun H qx hz1 hk1 => ?_)
  have hP := dk_old hP hk1
  have hO := out_old hO hk1
  have hS : va_S (lA (wsD g AD LL EE lc ec) ou) s.heap H [] := ⟨hz1, fun q h1 _ => hk1 q h1, fun q h => nomatch h⟩
  refine lv_astore_n (lv' := [(3, .ref (qx)), (0, .ref (AD 0)), (1, .int (x)), (2, .ref (ou))]) hx hb dL_digestOf_12 rfl hl (by decide) rfl (fun ls hl => ?_)
  refine lv_iconst (v := 1) hx hb dL_digestOf_13 (by decide +kernel) ?_
  exact hret _ _ _ _ hP hO hS dL_digestOf_14

set_option maxHeartbeats 4000000 in
set_option maxRecDepth 100000 in
/-- the law's own signAt -/
theorem c_L_signAt (l : Launch) (g : gT) (AD : Nat → Nat) (LL : Nat → ltT) (EE : Nat → evT) (LN : Nat → Nat) (lc ec : Nat) (hlc : lc ≤ 12) (hec : ec ≤ 24) (hLL : ∀ i, i < 12 → (LL i).2.2 ≤ 40) (hEE : ∀ q, q < ec → (EE q).1 = nI (LN q) ∧ LN q < lc ∧ (EE q).2.2.1 ≤ 40 ∧ (EE q).2.2.2.1 ≤ 8) (k : Nat) (hk : k < lc) (j : Nat) (hj : j < (LL k).2.2) (ou : Nat) (v : Int64) : lM g l yL_signAt wsL_signAt { frames := 9, cells := 1, slots := 6, locals := 148 } [.ref (AD 0), .int (nI k), .int (nI j), .ref (ou)] (wsD g AD LL EE lc ec) ou v 0 (wsD g AD LL EE lc ec) (((LL k).1 j).toInt64) := by
  refine lr_of (cc := cL_signAt) (maxL := 5) (by decide) rfl (Nat.le_of_ble_eq_true rfl) ?_
  intro p e s m args below meth c ls Q hx hb hml hts hown hK hZ hP hO hD hNo htab hl hret
  have hl : lv_has ls 5 [(0, .ref (AD 0)), (1, .int (nI k)), (2, .int (nI j)), (3, .ref (ou))] := hl
  have S : CallFix p m c cL_signAt 5 s args wsL_signAt RL := ⟨hx, hb, hml, hown, hts⟩
  have hAo : ∀ k, k < 87 → ¬ AD k = ou := dk_no hNo
  refine W.widen (Nat.zero_le 1) (Nat.zero_le 6) ?_
  refine lv_aload_n hx hb dL_signAt_0 rfl (lv_at hl 3 rfl) ?_
  refine lv_iconst (v := 0) hx hb dL_signAt_1 (by decide +kernel) ?_
  refine lv_aload_n hx hb dL_signAt_2 rfl (lv_at hl 0 rfl) ?_
  refine lv_iload_n hx hb dL_signAt_3 rfl (lv_at hl 1 rfl) ?_
  refine lv_iload_n hx hb dL_signAt_4 rfl (lv_at hl 2 rfl) ?_
  obtain ⟨H, eH⟩ : ∃ H : Heap, H = s.heap := ⟨_, rfl⟩
  have hS : va_S (lA (wsD g AD LL EE lc ec) ou) s.heap H [] := by rw [eH]; exact va_S.rf
  rw [← eH] at hP hO
  rw [← eH]
  refine p_V (As := [.int (nI k), .int (nI j)]) (rest := [.int (0), .ref (ou)]) S (c_X2_signAt l g AD LL EE LN lc ec hlc hec hLL hEE k hk j hj) (cwV 2 hts gL_signAt_X2_signAt rfl rfl rfl (by decide +kernel) ⟨Nat.le_of_ble_eq_true rfl, Nat.le_of_ble_eq_true rfl⟩) hK (va_recv hK.1 hP (ci := 2) (q0 := 0) rfl dk_me) hP rfl hl.1 rfl (Nat.le_of_ble_eq_true rfl) dL_signAt_5 ⟨Nat.le_of_ble_eq_true rfl, Nat.le_of_ble_eq_true rfl⟩ ?_
  refine lv_i2l (v := ((LL k).1 j).toInt64) hx hb dL_signAt_8 rfl ?_
  refine st_J (o := ou) (cA := gJ g) (v := v) (x := ((LL k).1 j).toInt64) (A := lA (wsD g AD LL EE lc ec) ou) hx hb hK.1 hO (Or.inr rfl) hS 3 rfl dL_signAt_9 (fun H locs hO hk2 hS => ?_)
  have hP := dk_keep hP hk2 hAo
  refine lv_goto (tgt := 17) hx hb dL_signAt_10 (by decide) ?_
  refine lv_iconst (v := 0) hx hb dL_signAt_17 (by decide +kernel) ?_
  exact hret _ _ _ _ hP hO hS dL_signAt_18

set_option maxHeartbeats 4000000 in
set_option maxRecDepth 100000 in
/-- the law's own signAt_x -/
theorem c_L_signAt_x (l : Launch) (hlt : l.stackTraces = false) (g : gT) (AD : Nat → Nat) (LL : Nat → ltT) (EE : Nat → evT) (LN : Nat → Nat) (lc ec : Nat) (hlc : lc ≤ 12) (hec : ec ≤ 24) (hLL : ∀ i, i < 12 → (LL i).2.2 ≤ 40) (hEE : ∀ q, q < ec → (EE q).1 = nI (LN q) ∧ LN q < lc ∧ (EE q).2.2.1 ≤ 40 ∧ (EE q).2.2.2.1 ≤ 8) (x : Int32) (hxb : inB x lc = false) (y : Int32) (ou : Nat) (v : Int64) : lM g l yL_signAt wsL_signAt { frames := 9, cells := 1, slots := 6, locals := 148 } [.ref (AD 0), .int (x), .int (y), .ref (ou)] (wsD g AD LL EE lc ec) ou v 1 (wsD g AD LL EE lc ec) (v) := by
  refine lr_of (cc := cL_signAt) (maxL := 5) (by decide) rfl (Nat.le_of_ble_eq_true rfl) ?_
  intro p e s m args below meth c ls Q hx hb hml hts hown hK hZ hP hO hD hNo htab hl hret
  have hl : lv_has ls 5 [(0, .ref (AD 0)), (1, .int (x)), (2, .int (y)), (3, .ref (ou))] := hl
  have S : CallFix p m c cL_signAt 5 s args wsL_signAt RL := ⟨hx, hb, hml, hown, hts⟩
  have hAo : ∀ k, k < 87 → ¬ AD k = ou := dk_no hNo
  refine lv_aload_n hx hb dL_signAt_0 rfl (lv_at hl 3 rfl) ?_
  refine lv_iconst (v := 0) hx hb dL_signAt_1 (by decide +kernel) ?_
  refine lv_aload_n hx hb dL_signAt_2 rfl (lv_at hl 0 rfl) ?_
  refine lv_iload_n hx hb dL_signAt_3 rfl (lv_at hl 1 rfl) ?_
  refine lv_iload_n hx hb dL_signAt_4 rfl (lv_at hl 2 rfl) ?_
  refine lx_V (E := "java/lang/IndexOutOfBoundsException") (As := [.int (x), .int (y)]) (rest := [.int (0), .ref (ou)]) S (c_X2_signAt_x l hlt g AD LL EE LN lc ec hlc hec hLL hEE x hxb y) (cwV 2 hts gL_signAt_X2_signAt rfl rfl rfl (by decide +kernel) ⟨Nat.le_of_ble_eq_true rfl, Nat.le_of_ble_eq_true rfl⟩) hK hZ (va_recv hK.1 hP (ci := 2) (q0 := 0) rfl dk_me) hP rfl hl.1 rfl (Nat.le_of_ble_eq_true rfl) dL_signAt_5 ⟨Nat.le_of_ble_eq_true rfl, Nat.le_of_ble_eq_true rfl⟩ [] ⟨0, 10, 13, 19⟩ [] htab (fun _ h9 => absurd h9 List.not_mem_nil) (by decide) (by decide) (hts (.classLink RL 19 "java/lang/IndexOutOfBoundsException") (by decide +kernel)) (List.mem_of_getElem? (i := 0) rfl) (fun H qx hz1 hk1 => ?_)
  have hP := dk_old hP hk1
  have hO := out_old hO hk1
  have hS : va_S (lA (wsD g AD LL EE lc ec) ou) s.heap H [] := ⟨hz1, fun q h1 _ => hk1 q h1, fun q h => nomatch h⟩
  refine lv_astore (lv' := [(4, .ref (qx)), (0, .ref (AD 0)), (1, .int (x)), (2, .int (y)), (3, .ref (ou))]) hx hb dL_signAt_13 hl (by decide) rfl (fun ls hl => ?_)
  refine lv_iconst (v := 1) hx hb dL_signAt_15 (by decide +kernel) ?_
  exact hret _ _ _ _ hP hO hS dL_signAt_16

set_option maxHeartbeats 4000000 in
set_option maxRecDepth 100000 in
/-- the law's own signAt_y -/
theorem c_L_signAt_y (l : Launch) (hlt : l.stackTraces = false) (g : gT) (AD : Nat → Nat) (LL : Nat → ltT) (EE : Nat → evT) (LN : Nat → Nat) (lc ec : Nat) (hlc : lc ≤ 12) (hec : ec ≤ 24) (hLL : ∀ i, i < 12 → (LL i).2.2 ≤ 40) (hEE : ∀ q, q < ec → (EE q).1 = nI (LN q) ∧ LN q < lc ∧ (EE q).2.2.1 ≤ 40 ∧ (EE q).2.2.2.1 ≤ 8) (k : Nat) (hk : k < lc) (y : Int32) (hy : inB y (LL k).2.2 = false) (ou : Nat) (v : Int64) : lM g l yL_signAt wsL_signAt { frames := 9, cells := 1, slots := 6, locals := 148 } [.ref (AD 0), .int (nI k), .int (y), .ref (ou)] (wsD g AD LL EE lc ec) ou v 1 (wsD g AD LL EE lc ec) (v) := by
  refine lr_of (cc := cL_signAt) (maxL := 5) (by decide) rfl (Nat.le_of_ble_eq_true rfl) ?_
  intro p e s m args below meth c ls Q hx hb hml hts hown hK hZ hP hO hD hNo htab hl hret
  have hl : lv_has ls 5 [(0, .ref (AD 0)), (1, .int (nI k)), (2, .int (y)), (3, .ref (ou))] := hl
  have S : CallFix p m c cL_signAt 5 s args wsL_signAt RL := ⟨hx, hb, hml, hown, hts⟩
  have hAo : ∀ k, k < 87 → ¬ AD k = ou := dk_no hNo
  refine lv_aload_n hx hb dL_signAt_0 rfl (lv_at hl 3 rfl) ?_
  refine lv_iconst (v := 0) hx hb dL_signAt_1 (by decide +kernel) ?_
  refine lv_aload_n hx hb dL_signAt_2 rfl (lv_at hl 0 rfl) ?_
  refine lv_iload_n hx hb dL_signAt_3 rfl (lv_at hl 1 rfl) ?_
  refine lv_iload_n hx hb dL_signAt_4 rfl (lv_at hl 2 rfl) ?_
  refine lx_V (E := "java/lang/IndexOutOfBoundsException") (As := [.int (nI k), .int (y)]) (rest := [.int (0), .ref (ou)]) S (c_X2_signAt_y l hlt g AD LL EE LN lc ec hlc hec hLL hEE k hk y hy) (cwV 2 hts gL_signAt_X2_signAt rfl rfl rfl (by decide +kernel) ⟨Nat.le_of_ble_eq_true rfl, Nat.le_of_ble_eq_true rfl⟩) hK hZ (va_recv hK.1 hP (ci := 2) (q0 := 0) rfl dk_me) hP rfl hl.1 rfl (Nat.le_of_ble_eq_true rfl) dL_signAt_5 ⟨Nat.le_of_ble_eq_true rfl, Nat.le_of_ble_eq_true rfl⟩ [] ⟨0, 10, 13, 19⟩ [] htab (fun _ h9 => absurd h9 List.not_mem_nil) (by decide) (by decide) (hts (.classLink RL 19 "java/lang/IndexOutOfBoundsException") (by decide +kernel)) (List.mem_of_getElem? (i := 0) rfl) (fun H qx hz1 hk1 => ?_)
  have hP := dk_old hP hk1
  have hO := out_old hO hk1
  have hS : va_S (lA (wsD g AD LL EE lc ec) ou) s.heap H [] := ⟨hz1, fun q h1 _ => hk1 q h1, fun q h => nomatch h⟩
  refine lv_astore (lv' := [(4, .ref (qx)), (0, .ref (AD 0)), (1, .int (nI k)), (2, .int (y)), (3, .ref (ou))]) hx hb dL_signAt_13 hl (by decide) rfl (fun ls hl => ?_)
  refine lv_iconst (v := 1) hx hb dL_signAt_15 (by decide +kernel) ?_
  exact hret _ _ _ _ hP hO hS dL_signAt_16

set_option maxHeartbeats 4000000 in
set_option maxRecDepth 100000 in
/-- the law's own sumOf -/
theorem c_L_sumOf (l : Launch) (g : gT) (AD : Nat → Nat) (LL : Nat → ltT) (EE : Nat → evT) (LN : Nat → Nat) (lc ec : Nat) (hlc : lc ≤ 12) (hec : ec ≤ 24) (hLL : ∀ i, i < 12 → (LL i).2.2 ≤ 40) (hEE : ∀ q, q < ec → (EE q).1 = nI (LN q) ∧ LN q < lc ∧ (EE q).2.2.1 ≤ 40 ∧ (EE q).2.2.2.1 ≤ 8) (k : Nat) (hk : k < lc) (o t : Nat) (ht : 1 ≤ t) (ho : o + t ≤ (LL k).2.2) (ou : Nat) (v : Int64) : lM g l yL_sumOf wsL_sumOf { frames := 8, cells := 1, slots := 6, locals := 127 } [.ref (AD 0), .int (nI k), .int (nI o), .int (nI t), .ref (ou)] (wsD g AD LL EE lc ec) ou v 0 (wsD g AD LL EE lc ec) ((wnF ((LL k).1) o t).toInt64) := by
  refine lr_of (cc := cL_sumOf) (maxL := 6) (by decide) rfl (Nat.le_of_ble_eq_true rfl) ?_
  intro p e s m args below meth c ls Q hx hb hml hts hown hK hZ hP hO hD hNo htab hl hret
  have hl : lv_has ls 6 [(0, .ref (AD 0)), (1, .int (nI k)), (2, .int (nI o)), (3, .int (nI t)), (4, .ref (ou))] := hl
  have S : CallFix p m c cL_sumOf 6 s args wsL_sumOf RL := ⟨hx, hb, hml, hown, hts⟩
  have hAo : ∀ k, k < 87 → ¬ AD k = ou := dk_no hNo
  refine W.widen (Nat.zero_le 1) (Nat.zero_le 6) ?_
  refine lv_aload hx hb dL_sumOf_0 (lv_at hl 4 rfl) ?_
  refine lv_iconst (v := 0) hx hb dL_sumOf_2 (by decide +kernel) ?_
  refine lv_aload_n hx hb dL_sumOf_3 rfl (lv_at hl 0 rfl) ?_
  refine lv_iload_n hx hb dL_sumOf_4 rfl (lv_at hl 1 rfl) ?_
  refine lv_iload_n hx hb dL_sumOf_5 rfl (lv_at hl 2 rfl) ?_
  refine lv_iload_n hx hb dL_sumOf_6 rfl (lv_at hl 3 rfl) ?_
  obtain ⟨H, eH⟩ : ∃ H : Heap, H = s.heap := ⟨_, rfl⟩
  have hS : va_S (lA (wsD g AD LL EE lc ec) ou) s.heap H [] := by rw [eH]; exact va_S.rf
  rw [← eH] at hP hO
  rw [← eH]
  refine p_V (As := [.int (nI k), .int (nI o), .int (nI t)]) (rest := [.int (0), .ref (ou)]) S (c_X2_sumOf l g AD LL EE LN lc ec hlc hec hLL hEE k hk o t ht ho) (cwV 3 hts gL_sumOf_X2_sumOf rfl rfl rfl (by decide +kernel) ⟨Nat.le_of_ble_eq_true rfl, Nat.le_of_ble_eq_true rfl⟩) hK (va_recv hK.1 hP (ci := 2) (q0 := 0) rfl dk_me) hP rfl hl.1 rfl (Nat.le_of_ble_eq_true rfl) dL_sumOf_7 ⟨Nat.le_of_ble_eq_true rfl, Nat.le_of_ble_eq_true rfl⟩ ?_
  refine lv_i2l (v := (wnF ((LL k).1) o t).toInt64) hx hb dL_sumOf_10 rfl ?_
  refine st_J (o := ou) (cA := gJ g) (v := v) (x := (wnF ((LL k).1) o t).toInt64) (A := lA (wsD g AD LL EE lc ec) ou) hx hb hK.1 hO (Or.inr rfl) hS 3 rfl dL_sumOf_11 (fun H locs hO hk2 hS => ?_)
  have hP := dk_keep hP hk2 hAo
  refine lv_goto (tgt := 23) hx hb dL_sumOf_12 (by decide) ?_
  refine lv_iconst (v := 0) hx hb dL_sumOf_23 (by decide +kernel) ?_
  exact hret _ _ _ _ hP hO hS dL_sumOf_24

set_option maxHeartbeats 4000000 in
set_option maxRecDepth 100000 in
/-- the law's own sumOf_x -/
theorem c_L_sumOf_x (l : Launch) (hlt : l.stackTraces = false) (g : gT) (AD : Nat → Nat) (LL : Nat → ltT) (EE : Nat → evT) (LN : Nat → Nat) (lc ec : Nat) (hlc : lc ≤ 12) (hec : ec ≤ 24) (hLL : ∀ i, i < 12 → (LL i).2.2 ≤ 40) (hEE : ∀ q, q < ec → (EE q).1 = nI (LN q) ∧ LN q < lc ∧ (EE q).2.2.1 ≤ 40 ∧ (EE q).2.2.2.1 ≤ 8) (x : Int32) (hxb : inB x lc = false) (y z : Int32) (ou : Nat) (v : Int64) : lM g l yL_sumOf wsL_sumOf { frames := 8, cells := 1, slots := 6, locals := 127 } [.ref (AD 0), .int (x), .int (y), .int (z), .ref (ou)] (wsD g AD LL EE lc ec) ou v 1 (wsD g AD LL EE lc ec) (v) := by
  refine lr_of (cc := cL_sumOf) (maxL := 6) (by decide) rfl (Nat.le_of_ble_eq_true rfl) ?_
  intro p e s m args below meth c ls Q hx hb hml hts hown hK hZ hP hO hD hNo htab hl hret
  have hl : lv_has ls 6 [(0, .ref (AD 0)), (1, .int (x)), (2, .int (y)), (3, .int (z)), (4, .ref (ou))] := hl
  have S : CallFix p m c cL_sumOf 6 s args wsL_sumOf RL := ⟨hx, hb, hml, hown, hts⟩
  have hAo : ∀ k, k < 87 → ¬ AD k = ou := dk_no hNo
  refine lv_aload hx hb dL_sumOf_0 (lv_at hl 4 rfl) ?_
  refine lv_iconst (v := 0) hx hb dL_sumOf_2 (by decide +kernel) ?_
  refine lv_aload_n hx hb dL_sumOf_3 rfl (lv_at hl 0 rfl) ?_
  refine lv_iload_n hx hb dL_sumOf_4 rfl (lv_at hl 1 rfl) ?_
  refine lv_iload_n hx hb dL_sumOf_5 rfl (lv_at hl 2 rfl) ?_
  refine lv_iload_n hx hb dL_sumOf_6 rfl (lv_at hl 3 rfl) ?_
  refine lx_V (E := "java/lang/IndexOutOfBoundsException") (As := [.int (x), .int (y), .int (z)]) (rest := [.int (0), .ref (ou)]) S (c_X2_sumOf_x l hlt g AD LL EE LN lc ec hlc hec hLL hEE x hxb y z) (cwV 3 hts gL_sumOf_X2_sumOf rfl rfl rfl (by decide +kernel) ⟨Nat.le_of_ble_eq_true rfl, Nat.le_of_ble_eq_true rfl⟩) hK hZ (va_recv hK.1 hP (ci := 2) (q0 := 0) rfl dk_me) hP rfl hl.1 rfl (Nat.le_of_ble_eq_true rfl) dL_sumOf_7 ⟨Nat.le_of_ble_eq_true rfl, Nat.le_of_ble_eq_true rfl⟩ [] ⟨0, 12, 15, 19⟩ [⟨0, 12, 19, 25⟩] htab (fun _ h9 => absurd h9 List.not_mem_nil) (by decide) (by decide) (hts (.classLink RL 19 "java/lang/IndexOutOfBoundsException") (by decide +kernel)) (List.mem_of_getElem? (i := 0) rfl) (fun H qx hz1 hk1 => ?_)
  have hP := dk_old hP hk1
  have hO := out_old hO hk1
  have hS : va_S (lA (wsD g AD LL EE lc ec) ou) s.heap H [] := ⟨hz1, fun q h1 _ => hk1 q h1, fun q h => nomatch h⟩
  refine lv_astore (lv' := [(5, .ref (qx)), (0, .ref (AD 0)), (1, .int (x)), (2, .int (y)), (3, .int (z)), (4, .ref (ou))]) hx hb dL_sumOf_15 hl (by decide) rfl (fun ls hl => ?_)
  refine lv_iconst (v := 1) hx hb dL_sumOf_17 (by decide +kernel) ?_
  exact hret _ _ _ _ hP hO hS dL_sumOf_18

set_option maxHeartbeats 4000000 in
set_option maxRecDepth 100000 in
/-- the law's own sumOf_a -/
theorem c_L_sumOf_a (l : Launch) (hlt : l.stackTraces = false) (g : gT) (AD : Nat → Nat) (LL : Nat → ltT) (EE : Nat → evT) (LN : Nat → Nat) (lc ec : Nat) (hlc : lc ≤ 12) (hec : ec ≤ 24) (hLL : ∀ i, i < 12 → (LL i).2.2 ≤ 40) (hEE : ∀ q, q < ec → (EE q).1 = nI (LN q) ∧ LN q < lc ∧ (EE q).2.2.1 ≤ 40 ∧ (EE q).2.2.2.1 ≤ 8) (k : Nat) (hk : k < lc) (x y : Int32) (hb2 : ((decide (1 ≤ y) && decide (y ≤ nI (LL k).2.2)) && (decide (0 ≤ x) && decide (x ≤ nI (LL k).2.2 - y))) = false) (ou : Nat) (v : Int64) : lM g l yL_sumOf wsL_sumOf { frames := 8, cells := 1, slots := 6, locals := 127 } [.ref (AD 0), .int (nI k), .int (x), .int (y), .ref (ou)] (wsD g AD LL EE lc ec) ou v 2 (wsD g AD LL EE lc ec) (v) := by
  refine lr_of (cc := cL_sumOf) (maxL := 6) (by decide) rfl (Nat.le_of_ble_eq_true rfl) ?_
  intro p e s m args below meth c ls Q hx hb hml hts hown hK hZ hP hO hD hNo htab hl hret
  have hl : lv_has ls 6 [(0, .ref (AD 0)), (1, .int (nI k)), (2, .int (x)), (3, .int (y)), (4, .ref (ou))] := hl
  have S : CallFix p m c cL_sumOf 6 s args wsL_sumOf RL := ⟨hx, hb, hml, hown, hts⟩
  have hAo : ∀ k, k < 87 → ¬ AD k = ou := dk_no hNo
  refine lv_aload hx hb dL_sumOf_0 (lv_at hl 4 rfl) ?_
  refine lv_iconst (v := 0) hx hb dL_sumOf_2 (by decide +kernel) ?_
  refine lv_aload_n hx hb dL_sumOf_3 rfl (lv_at hl 0 rfl) ?_
  refine lv_iload_n hx hb dL_sumOf_4 rfl (lv_at hl 1 rfl) ?_
  refine lv_iload_n hx hb dL_sumOf_5 rfl (lv_at hl 2 rfl) ?_
  refine lv_iload_n hx hb dL_sumOf_6 rfl (lv_at hl 3 rfl) ?_
  refine lx_V (E := "java/lang/IllegalArgumentException") (As := [.int (nI k), .int (x), .int (y)]) (rest := [.int (0), .ref (ou)]) S (c_X2_sumOf_a l hlt g AD LL EE LN lc ec hlc hec hLL hEE k hk x y hb2) (cwV 3 hts gL_sumOf_X2_sumOf rfl rfl rfl (by decide +kernel) ⟨Nat.le_of_ble_eq_true rfl, Nat.le_of_ble_eq_true rfl⟩) hK hZ (va_recv hK.1 hP (ci := 2) (q0 := 0) rfl dk_me) hP rfl hl.1 rfl (Nat.le_of_ble_eq_true rfl) dL_sumOf_7 ⟨Nat.le_of_ble_eq_true rfl, Nat.le_of_ble_eq_true rfl⟩ [⟨0, 12, 15, 19⟩] ⟨0, 12, 19, 25⟩ [] htab (List.forall_mem_cons.mpr ⟨Or.inr ⟨by decide, "java/lang/IndexOutOfBoundsException", hts (.classLink RL 19 "java/lang/IndexOutOfBoundsException") (by decide +kernel), hK.2.2.2.2.2.2 ("java/lang/IllegalArgumentException", "java/lang/IndexOutOfBoundsException") (List.mem_of_getElem? (i := 0) rfl)⟩, fun _ h9 => absurd h9 List.not_mem_nil⟩) (by decide) (by decide) (hts (.classLink RL 25 "java/lang/IllegalArgumentException") (by decide +kernel)) (List.mem_of_getElem? (i := 1) rfl) (fun H qx hz1 hk1 => ?_)
  have hP := dk_old hP hk1
  have hO := out_old hO hk1
  have hS : va_S (lA (wsD g AD LL EE lc ec) ou) s.heap H [] := ⟨hz1, fun q h1 _ => hk1 q h1, fun q h => nomatch h⟩
  refine lv_astore (lv' := [(5, .ref (qx)), (0, .ref (AD 0)), (1, .int (nI k)), (2, .int (x)), (3, .int (y)), (4, .ref (ou))]) hx hb dL_sumOf_19 hl (by decide) rfl (fun ls hl => ?_)
  refine lv_iconst (v := 2) hx hb dL_sumOf_21 (by decide +kernel) ?_
  exact hret _ _ _ _ hP hO hS dL_sumOf_22

set_option maxHeartbeats 4000000 in
set_option maxRecDepth 100000 in
/-- the law's own sameSums -/
theorem c_L_sameSums (l : Launch) (g : gT) (AD : Nat → Nat) (LL : Nat → ltT) (EE : Nat → evT) (LN : Nat → Nat) (lc ec : Nat) (hlc : lc ≤ 12) (hec : ec ≤ 24) (hLL : ∀ i, i < 12 → (LL i).2.2 ≤ 40) (hEE : ∀ q, q < ec → (EE q).1 = nI (LN q) ∧ LN q < lc ∧ (EE q).2.2.1 ≤ 40 ∧ (EE q).2.2.2.1 ≤ 8) (k : Nat) (hk : k < lc) (t : Nat) (ht : 1 ≤ t) (ht2 : t ≤ 40) (ou : Nat) (v : Int64) : lM g l yL_sameSums wsL_sameSums { frames := 8, cells := 1, slots := 6, locals := 126 } [.ref (AD 0), .int (nI k), .int (nI t), .ref (ou)] (wsD g AD LL EE lc ec) ou v 0 (wsD g AD (fup LL k (((LL k).1, wnV (LL k).1 (LL k).2.1 t (LL k).2.2, (LL k).2.2) : ltT)) EE lc ec) ((ssV (LL k).1 t false (LL k).2.2).toInt64) := by
  refine lr_of (cc := cL_sameSums) (maxL := 5) (by decide) rfl (Nat.le_of_ble_eq_true rfl) ?_
  intro p e s m args below meth c ls Q hx hb hml hts hown hK hZ hP hO hD hNo htab hl hret
  have hl : lv_has ls 5 [(0, .ref (AD 0)), (1, .int (nI k)), (2, .int (nI t)), (3, .ref (ou))] := hl
  have S : CallFix p m c cL_sameSums 5 s args wsL_sameSums RL := ⟨hx, hb, hml, hown, hts⟩
  have hAo : ∀ k, k < 87 → ¬ AD k = ou := dk_no hNo
  refine W.widen (Nat.zero_le 1) (Nat.zero_le 6) ?_
  refine lv_aload_n hx hb dL_sameSums_0 rfl (lv_at hl 3 rfl) ?_
  refine lv_iconst (v := 0) hx hb dL_sameSums_1 (by decide +kernel) ?_
  refine lv_aload_n hx hb dL_sameSums_2 rfl (lv_at hl 0 rfl) ?_
  refine lv_iload_n hx hb dL_sameSums_3 rfl (lv_at hl 1 rfl) ?_
  refine lv_iload_n hx hb dL_sameSums_4 rfl (lv_at hl 2 rfl) ?_
  obtain ⟨H, eH⟩ : ∃ H : Heap, H = s.heap := ⟨_, rfl⟩
  have hS : va_S (lA (wsD g AD LL EE lc ec) ou) s.heap H [] := by rw [eH]; exact va_S.rf
  rw [← eH] at hP hO
  rw [← eH]
  refine w_V (As := [.int (nI k), .int (nI t)]) (rest := [.int (0), .ref (ou)]) S (c_X2_sameSums l g AD LL EE LN lc ec hlc hec hLL hEE k hk t ht ht2) (cwV 2 hts gL_sameSums_X2_sameSums rfl rfl rfl (by decide +kernel) ⟨Nat.le_of_ble_eq_true rfl, Nat.le_of_ble_eq_true rfl⟩) hK (va_recv hK.1 hP (ci := 2) (q0 := 0) rfl dk_me) hP hD hS (fun q h9 => Or.inl h9) rfl hl.1 rfl (Nat.le_of_ble_eq_true rfl) dL_sameSums_5 ⟨Nat.le_of_ble_eq_true rfl, Nat.le_of_ble_eq_true rfl⟩ (fun H locs hP hz1 hk1 hS => ?_)
  have hO := out_kept hO hk1 hNo
  refine lv_i2l (v := (ssV (LL k).1 t false (LL k).2.2).toInt64) hx hb dL_sameSums_8 rfl ?_
  refine st_J (o := ou) (cA := gJ g) (v := v) (x := (ssV (LL k).1 t false (LL k).2.2).toInt64) (A := lA (wsD g AD LL EE lc ec) ou) hx hb hK.1 hO (Or.inr rfl) hS 3 rfl dL_sameSums_9 (fun H locs hO hk2 hS => ?_)
  have hP := dk_keep hP hk2 hAo
  refine lv_goto (tgt := 21) hx hb dL_sameSums_10 (by decide) ?_
  refine lv_iconst (v := 0) hx hb dL_sameSums_21 (by decide +kernel) ?_
  exact hret _ _ _ _ hP hO hS dL_sameSums_22

set_option maxHeartbeats 4000000 in
set_option maxRecDepth 100000 in
/-- the law's own sameSums_x -/
theorem c_L_sameSums_x (l : Launch) (hlt : l.stackTraces = false) (g : gT) (AD : Nat → Nat) (LL : Nat → ltT) (EE : Nat → evT) (LN : Nat → Nat) (lc ec : Nat) (hlc : lc ≤ 12) (hec : ec ≤ 24) (hLL : ∀ i, i < 12 → (LL i).2.2 ≤ 40) (hEE : ∀ q, q < ec → (EE q).1 = nI (LN q) ∧ LN q < lc ∧ (EE q).2.2.1 ≤ 40 ∧ (EE q).2.2.2.1 ≤ 8) (x : Int32) (hxb : inB x lc = false) (y : Int32) (ou : Nat) (v : Int64) : lM g l yL_sameSums wsL_sameSums { frames := 8, cells := 1, slots := 6, locals := 126 } [.ref (AD 0), .int (x), .int (y), .ref (ou)] (wsD g AD LL EE lc ec) ou v 1 (wsD g AD LL EE lc ec) (v) := by
  refine lr_of (cc := cL_sameSums) (maxL := 5) (by decide) rfl (Nat.le_of_ble_eq_true rfl) ?_
  intro p e s m args below meth c ls Q hx hb hml hts hown hK hZ hP hO hD hNo htab hl hret
  have hl : lv_has ls 5 [(0, .ref (AD 0)), (1, .int (x)), (2, .int (y)), (3, .ref (ou))] := hl
  have S : CallFix p m c cL_sameSums 5 s args wsL_sameSums RL := ⟨hx, hb, hml, hown, hts⟩
  have hAo : ∀ k, k < 87 → ¬ AD k = ou := dk_no hNo
  refine lv_aload_n hx hb dL_sameSums_0 rfl (lv_at hl 3 rfl) ?_
  refine lv_iconst (v := 0) hx hb dL_sameSums_1 (by decide +kernel) ?_
  refine lv_aload_n hx hb dL_sameSums_2 rfl (lv_at hl 0 rfl) ?_
  refine lv_iload_n hx hb dL_sameSums_3 rfl (lv_at hl 1 rfl) ?_
  refine lv_iload_n hx hb dL_sameSums_4 rfl (lv_at hl 2 rfl) ?_
  refine lx_V (E := "java/lang/IndexOutOfBoundsException") (As := [.int (x), .int (y)]) (rest := [.int (0), .ref (ou)]) S (c_X2_sameSums_x l hlt g AD LL EE LN lc ec hlc hec hLL hEE x hxb y) (cwV 2 hts gL_sameSums_X2_sameSums rfl rfl rfl (by decide +kernel) ⟨Nat.le_of_ble_eq_true rfl, Nat.le_of_ble_eq_true rfl⟩) hK hZ (va_recv hK.1 hP (ci := 2) (q0 := 0) rfl dk_me) hP rfl hl.1 rfl (Nat.le_of_ble_eq_true rfl) dL_sameSums_5 ⟨Nat.le_of_ble_eq_true rfl, Nat.le_of_ble_eq_true rfl⟩ [] ⟨0, 10, 13, 19⟩ [⟨0, 10, 17, 25⟩] htab (fun _ h9 => absurd h9 List.not_mem_nil) (by decide) (by decide) (hts (.classLink RL 19 "java/lang/IndexOutOfBoundsException") (by decide +kernel)) (List.mem_of_getElem? (i := 0) rfl) (fun H qx hz1 hk1 => ?_)
  have hP := dk_old hP hk1
  have hO := out_old hO hk1
  have hS : va_S (lA (wsD g AD LL EE lc ec) ou) s.heap H [] := ⟨hz1, fun q h1 _ => hk1 q h1, fun q h => nomatch h⟩
  refine lv_astore (lv' := [(4, .ref (qx)), (0, .ref (AD 0)), (1, .int (x)), (2, .int (y)), (3, .ref (ou))]) hx hb dL_sameSums_13 hl (by decide) rfl (fun ls hl => ?_)
  refine lv_iconst (v := 1) hx hb dL_sameSums_15 (by decide +kernel) ?_
  exact hret _ _ _ _ hP hO hS dL_sameSums_16

set_option maxHeartbeats 4000000 in
set_option maxRecDepth 100000 in
/-- the law's own sameSums_a -/
theorem c_L_sameSums_a (l : Launch) (hlt : l.stackTraces = false) (g : gT) (AD : Nat → Nat) (LL : Nat → ltT) (EE : Nat → evT) (LN : Nat → Nat) (lc ec : Nat) (hlc : lc ≤ 12) (hec : ec ≤ 24) (hLL : ∀ i, i < 12 → (LL i).2.2 ≤ 40) (hEE : ∀ q, q < ec → (EE q).1 = nI (LN q) ∧ LN q < lc ∧ (EE q).2.2.1 ≤ 40 ∧ (EE q).2.2.2.1 ≤ 8) (k : Nat) (hk : k < lc) (y : Int32) (hy : (decide (1 ≤ y) && decide (y ≤ 40)) = false) (ou : Nat) (v : Int64) : lM g l yL_sameSums wsL_sameSums { frames := 8, cells := 1, slots := 6, locals := 126 } [.ref (AD 0), .int (nI k), .int (y), .ref (ou)] (wsD g AD LL EE lc ec) ou v 2 (wsD g AD LL EE lc ec) (v) := by
  refine lr_of (cc := cL_sameSums) (maxL := 5) (by decide) rfl (Nat.le_of_ble_eq_true rfl) ?_
  intro p e s m args below meth c ls Q hx hb hml hts hown hK hZ hP hO hD hNo htab hl hret
  have hl : lv_has ls 5 [(0, .ref (AD 0)), (1, .int (nI k)), (2, .int (y)), (3, .ref (ou))] := hl
  have S : CallFix p m c cL_sameSums 5 s args wsL_sameSums RL := ⟨hx, hb, hml, hown, hts⟩
  have hAo : ∀ k, k < 87 → ¬ AD k = ou := dk_no hNo
  refine lv_aload_n hx hb dL_sameSums_0 rfl (lv_at hl 3 rfl) ?_
  refine lv_iconst (v := 0) hx hb dL_sameSums_1 (by decide +kernel) ?_
  refine lv_aload_n hx hb dL_sameSums_2 rfl (lv_at hl 0 rfl) ?_
  refine lv_iload_n hx hb dL_sameSums_3 rfl (lv_at hl 1 rfl) ?_
  refine lv_iload_n hx hb dL_sameSums_4 rfl (lv_at hl 2 rfl) ?_
  refine lx_V (E := "java/lang/IllegalArgumentException") (As := [.int (nI k), .int (y)]) (rest := [.int (0), .ref (ou)]) S (c_X2_sameSums_a l hlt g AD LL EE LN lc ec hlc hec hLL hEE k hk y hy) (cwV 2 hts gL_sameSums_X2_sameSums rfl rfl rfl (by decide +kernel) ⟨Nat.le_of_ble_eq_true rfl, Nat.le_of_ble_eq_true rfl⟩) hK hZ (va_recv hK.1 hP (ci := 2) (q0 := 0) rfl dk_me) hP rfl hl.1 rfl (Nat.le_of_ble_eq_true rfl) dL_sameSums_5 ⟨Nat.le_of_ble_eq_true rfl, Nat.le_of_ble_eq_true rfl⟩ [⟨0, 10, 13, 19⟩] ⟨0, 10, 17, 25⟩ [] htab (List.forall_mem_cons.mpr ⟨Or.inr ⟨by decide, "java/lang/IndexOutOfBoundsException", hts (.classLink RL 19 "java/lang/IndexOutOfBoundsException") (by decide +kernel), hK.2.2.2.2.2.2 ("java/lang/IllegalArgumentException", "java/lang/IndexOutOfBoundsException") (List.mem_of_getElem? (i := 0) rfl)⟩, fun _ h9 => absurd h9 List.not_mem_nil⟩) (by decide) (by decide) (hts (.classLink RL 25 "java/lang/IllegalArgumentException") (by decide +kernel)) (List.mem_of_getElem? (i := 1) rfl) (fun H qx hz1 hk1 => ?_)
  have hP := dk_old hP hk1
  have hO := out_old hO hk1
  have hS : va_S (lA (wsD g AD LL EE lc ec) ou) s.heap H [] := ⟨hz1, fun q h1 _ => hk1 q h1, fun q h => nomatch h⟩
  refine lv_astore (lv' := [(4, .ref (qx)), (0, .ref (AD 0)), (1, .int (nI k)), (2, .int (y)), (3, .ref (ou))]) hx hb dL_sameSums_17 hl (by decide) rfl (fun ls hl => ?_)
  refine lv_iconst (v := 2) hx hb dL_sameSums_19 (by decide +kernel) ?_
  exact hret _ _ _ _ hP hO hS dL_sameSums_20

set_option maxHeartbeats 4000000 in
set_option maxRecDepth 100000 in
/-- the law's own falseAlarms -/
theorem c_L_falseAlarms (l : Launch) (g : gT) (AD : Nat → Nat) (LL : Nat → ltT) (EE : Nat → evT) (LN : Nat → Nat) (lc ec : Nat) (hlc : lc ≤ 12) (hec : ec ≤ 24) (hLL : ∀ i, i < 12 → (LL i).2.2 ≤ 40) (hEE : ∀ q, q < ec → (EE q).1 = nI (LN q) ∧ LN q < lc ∧ (EE q).2.2.1 ≤ 40 ∧ (EE q).2.2.2.1 ≤ 8) (k : Nat) (hk : k < lc) (t : Nat) (ht : 1 ≤ t) (ht2 : t ≤ 40) (ou : Nat) (v : Int64) : lM g l yL_falseAlarms wsL_falseAlarms { frames := 8, cells := 1, slots := 6, locals := 126 } [.ref (AD 0), .int (nI k), .int (nI t), .ref (ou)] (wsD g AD LL EE lc ec) ou v 0 (wsD g AD (fup LL k (((LL k).1, wnV (LL k).1 (LL k).2.1 t (LL k).2.2, (LL k).2.2) : ltT)) EE lc ec) ((ssV (LL k).1 t true (LL k).2.2).toInt64) := by
  refine lr_of (cc := cL_falseAlarms) (maxL := 5) (by decide) rfl (Nat.le_of_ble_eq_true rfl) ?_
  intro p e s m args below meth c ls Q hx hb hml hts hown hK hZ hP hO hD hNo htab hl hret
  have hl : lv_has ls 5 [(0, .ref (AD 0)), (1, .int (nI k)), (2, .int (nI t)), (3, .ref (ou))] := hl
  have S : CallFix p m c cL_falseAlarms 5 s args wsL_falseAlarms RL := ⟨hx, hb, hml, hown, hts⟩
  have hAo : ∀ k, k < 87 → ¬ AD k = ou := dk_no hNo
  refine W.widen (Nat.zero_le 1) (Nat.zero_le 6) ?_
  refine lv_aload_n hx hb dL_falseAlarms_0 rfl (lv_at hl 3 rfl) ?_
  refine lv_iconst (v := 0) hx hb dL_falseAlarms_1 (by decide +kernel) ?_
  refine lv_aload_n hx hb dL_falseAlarms_2 rfl (lv_at hl 0 rfl) ?_
  refine lv_iload_n hx hb dL_falseAlarms_3 rfl (lv_at hl 1 rfl) ?_
  refine lv_iload_n hx hb dL_falseAlarms_4 rfl (lv_at hl 2 rfl) ?_
  obtain ⟨H, eH⟩ : ∃ H : Heap, H = s.heap := ⟨_, rfl⟩
  have hS : va_S (lA (wsD g AD LL EE lc ec) ou) s.heap H [] := by rw [eH]; exact va_S.rf
  rw [← eH] at hP hO
  rw [← eH]
  refine w_V (As := [.int (nI k), .int (nI t)]) (rest := [.int (0), .ref (ou)]) S (c_X2_falseAlarms l g AD LL EE LN lc ec hlc hec hLL hEE k hk t ht ht2) (cwV 2 hts gL_falseAlarms_X2_falseAlarms rfl rfl rfl (by decide +kernel) ⟨Nat.le_of_ble_eq_true rfl, Nat.le_of_ble_eq_true rfl⟩) hK (va_recv hK.1 hP (ci := 2) (q0 := 0) rfl dk_me) hP hD hS (fun q h9 => Or.inl h9) rfl hl.1 rfl (Nat.le_of_ble_eq_true rfl) dL_falseAlarms_5 ⟨Nat.le_of_ble_eq_true rfl, Nat.le_of_ble_eq_true rfl⟩ (fun H locs hP hz1 hk1 hS => ?_)
  have hO := out_kept hO hk1 hNo
  refine lv_i2l (v := (ssV (LL k).1 t true (LL k).2.2).toInt64) hx hb dL_falseAlarms_8 rfl ?_
  refine st_J (o := ou) (cA := gJ g) (v := v) (x := (ssV (LL k).1 t true (LL k).2.2).toInt64) (A := lA (wsD g AD LL EE lc ec) ou) hx hb hK.1 hO (Or.inr rfl) hS 3 rfl dL_falseAlarms_9 (fun H locs hO hk2 hS => ?_)
  have hP := dk_keep hP hk2 hAo
  refine lv_goto (tgt := 21) hx hb dL_falseAlarms_10 (by decide) ?_
  refine lv_iconst (v := 0) hx hb dL_falseAlarms_21 (by decide +kernel) ?_
  exact hret _ _ _ _ hP hO hS dL_falseAlarms_22

set_option maxHeartbeats 4000000 in
set_option maxRecDepth 100000 in
/-- the law's own falseAlarms_x -/
theorem c_L_falseAlarms_x (l : Launch) (hlt : l.stackTraces = false) (g : gT) (AD : Nat → Nat) (LL : Nat → ltT) (EE : Nat → evT) (LN : Nat → Nat) (lc ec : Nat) (hlc : lc ≤ 12) (hec : ec ≤ 24) (hLL : ∀ i, i < 12 → (LL i).2.2 ≤ 40) (hEE : ∀ q, q < ec → (EE q).1 = nI (LN q) ∧ LN q < lc ∧ (EE q).2.2.1 ≤ 40 ∧ (EE q).2.2.2.1 ≤ 8) (x : Int32) (hxb : inB x lc = false) (y : Int32) (ou : Nat) (v : Int64) : lM g l yL_falseAlarms wsL_falseAlarms { frames := 8, cells := 1, slots := 6, locals := 126 } [.ref (AD 0), .int (x), .int (y), .ref (ou)] (wsD g AD LL EE lc ec) ou v 1 (wsD g AD LL EE lc ec) (v) := by
  refine lr_of (cc := cL_falseAlarms) (maxL := 5) (by decide) rfl (Nat.le_of_ble_eq_true rfl) ?_
  intro p e s m args below meth c ls Q hx hb hml hts hown hK hZ hP hO hD hNo htab hl hret
  have hl : lv_has ls 5 [(0, .ref (AD 0)), (1, .int (x)), (2, .int (y)), (3, .ref (ou))] := hl
  have S : CallFix p m c cL_falseAlarms 5 s args wsL_falseAlarms RL := ⟨hx, hb, hml, hown, hts⟩
  have hAo : ∀ k, k < 87 → ¬ AD k = ou := dk_no hNo
  refine lv_aload_n hx hb dL_falseAlarms_0 rfl (lv_at hl 3 rfl) ?_
  refine lv_iconst (v := 0) hx hb dL_falseAlarms_1 (by decide +kernel) ?_
  refine lv_aload_n hx hb dL_falseAlarms_2 rfl (lv_at hl 0 rfl) ?_
  refine lv_iload_n hx hb dL_falseAlarms_3 rfl (lv_at hl 1 rfl) ?_
  refine lv_iload_n hx hb dL_falseAlarms_4 rfl (lv_at hl 2 rfl) ?_
  refine lx_V (E := "java/lang/IndexOutOfBoundsException") (As := [.int (x), .int (y)]) (rest := [.int (0), .ref (ou)]) S (c_X2_falseAlarms_x l hlt g AD LL EE LN lc ec hlc hec hLL hEE x hxb y) (cwV 2 hts gL_falseAlarms_X2_falseAlarms rfl rfl rfl (by decide +kernel) ⟨Nat.le_of_ble_eq_true rfl, Nat.le_of_ble_eq_true rfl⟩) hK hZ (va_recv hK.1 hP (ci := 2) (q0 := 0) rfl dk_me) hP rfl hl.1 rfl (Nat.le_of_ble_eq_true rfl) dL_falseAlarms_5 ⟨Nat.le_of_ble_eq_true rfl, Nat.le_of_ble_eq_true rfl⟩ [] ⟨0, 10, 13, 19⟩ [⟨0, 10, 17, 25⟩] htab (fun _ h9 => absurd h9 List.not_mem_nil) (by decide) (by decide) (hts (.classLink RL 19 "java/lang/IndexOutOfBoundsException") (by decide +kernel)) (List.mem_of_getElem? (i := 0) rfl) (fun H qx hz1 hk1 => ?_)
  have hP := dk_old hP hk1
  have hO := out_old hO hk1
  have hS : va_S (lA (wsD g AD LL EE lc ec) ou) s.heap H [] := ⟨hz1, fun q h1 _ => hk1 q h1, fun q h => nomatch h⟩
  refine lv_astore (lv' := [(4, .ref (qx)), (0, .ref (AD 0)), (1, .int (x)), (2, .int (y)), (3, .ref (ou))]) hx hb dL_falseAlarms_13 hl (by decide) rfl (fun ls hl => ?_)
  refine lv_iconst (v := 1) hx hb dL_falseAlarms_15 (by decide +kernel) ?_
  exact hret _ _ _ _ hP hO hS dL_falseAlarms_16

set_option maxHeartbeats 4000000 in
set_option maxRecDepth 100000 in
/-- the law's own falseAlarms_a -/
theorem c_L_falseAlarms_a (l : Launch) (hlt : l.stackTraces = false) (g : gT) (AD : Nat → Nat) (LL : Nat → ltT) (EE : Nat → evT) (LN : Nat → Nat) (lc ec : Nat) (hlc : lc ≤ 12) (hec : ec ≤ 24) (hLL : ∀ i, i < 12 → (LL i).2.2 ≤ 40) (hEE : ∀ q, q < ec → (EE q).1 = nI (LN q) ∧ LN q < lc ∧ (EE q).2.2.1 ≤ 40 ∧ (EE q).2.2.2.1 ≤ 8) (k : Nat) (hk : k < lc) (y : Int32) (hy : (decide (1 ≤ y) && decide (y ≤ 40)) = false) (ou : Nat) (v : Int64) : lM g l yL_falseAlarms wsL_falseAlarms { frames := 8, cells := 1, slots := 6, locals := 126 } [.ref (AD 0), .int (nI k), .int (y), .ref (ou)] (wsD g AD LL EE lc ec) ou v 2 (wsD g AD LL EE lc ec) (v) := by
  refine lr_of (cc := cL_falseAlarms) (maxL := 5) (by decide) rfl (Nat.le_of_ble_eq_true rfl) ?_
  intro p e s m args below meth c ls Q hx hb hml hts hown hK hZ hP hO hD hNo htab hl hret
  have hl : lv_has ls 5 [(0, .ref (AD 0)), (1, .int (nI k)), (2, .int (y)), (3, .ref (ou))] := hl
  have S : CallFix p m c cL_falseAlarms 5 s args wsL_falseAlarms RL := ⟨hx, hb, hml, hown, hts⟩
  have hAo : ∀ k, k < 87 → ¬ AD k = ou := dk_no hNo
  refine lv_aload_n hx hb dL_falseAlarms_0 rfl (lv_at hl 3 rfl) ?_
  refine lv_iconst (v := 0) hx hb dL_falseAlarms_1 (by decide +kernel) ?_
  refine lv_aload_n hx hb dL_falseAlarms_2 rfl (lv_at hl 0 rfl) ?_
  refine lv_iload_n hx hb dL_falseAlarms_3 rfl (lv_at hl 1 rfl) ?_
  refine lv_iload_n hx hb dL_falseAlarms_4 rfl (lv_at hl 2 rfl) ?_
  refine lx_V (E := "java/lang/IllegalArgumentException") (As := [.int (nI k), .int (y)]) (rest := [.int (0), .ref (ou)]) S (c_X2_falseAlarms_a l hlt g AD LL EE LN lc ec hlc hec hLL hEE k hk y hy) (cwV 2 hts gL_falseAlarms_X2_falseAlarms rfl rfl rfl (by decide +kernel) ⟨Nat.le_of_ble_eq_true rfl, Nat.le_of_ble_eq_true rfl⟩) hK hZ (va_recv hK.1 hP (ci := 2) (q0 := 0) rfl dk_me) hP rfl hl.1 rfl (Nat.le_of_ble_eq_true rfl) dL_falseAlarms_5 ⟨Nat.le_of_ble_eq_true rfl, Nat.le_of_ble_eq_true rfl⟩ [⟨0, 10, 13, 19⟩] ⟨0, 10, 17, 25⟩ [] htab (List.forall_mem_cons.mpr ⟨Or.inr ⟨by decide, "java/lang/IndexOutOfBoundsException", hts (.classLink RL 19 "java/lang/IndexOutOfBoundsException") (by decide +kernel), hK.2.2.2.2.2.2 ("java/lang/IllegalArgumentException", "java/lang/IndexOutOfBoundsException") (List.mem_of_getElem? (i := 0) rfl)⟩, fun _ h9 => absurd h9 List.not_mem_nil⟩) (by decide) (by decide) (hts (.classLink RL 25 "java/lang/IllegalArgumentException") (by decide +kernel)) (List.mem_of_getElem? (i := 1) rfl) (fun H qx hz1 hk1 => ?_)
  have hP := dk_old hP hk1
  have hO := out_old hO hk1
  have hS : va_S (lA (wsD g AD LL EE lc ec) ou) s.heap H [] := ⟨hz1, fun q h1 _ => hk1 q h1, fun q h => nomatch h⟩
  refine lv_astore (lv' := [(4, .ref (qx)), (0, .ref (AD 0)), (1, .int (nI k)), (2, .int (y)), (3, .ref (ou))]) hx hb dL_falseAlarms_17 hl (by decide) rfl (fun ls hl => ?_)
  refine lv_iconst (v := 2) hx hb dL_falseAlarms_19 (by decide +kernel) ?_
  exact hret _ _ _ _ hP hO hS dL_falseAlarms_20

set_option maxHeartbeats 4000000 in
set_option maxRecDepth 100000 in
/-- the law's own firstOf -/
theorem c_L_firstOf (l : Launch) (g : gT) (AD : Nat → Nat) (LL : Nat → ltT) (EE : Nat → evT) (LN : Nat → Nat) (lc ec : Nat) (hlc : lc ≤ 12) (hec : ec ≤ 24) (hLL : ∀ i, i < 12 → (LL i).2.2 ≤ 40) (hEE : ∀ q, q < ec → (EE q).1 = nI (LN q) ∧ LN q < lc ∧ (EE q).2.2.1 ≤ 40 ∧ (EE q).2.2.2.1 ≤ 8) (k : Nat) (hk : k < lc) (k2 : Nat) (hk2 : k2 < lc) (hn1 : 0 < (LL k2).2.2) (ou : Nat) (v : Int64) : lM g l yL_firstOf wsL_firstOf { frames := 8, cells := 1, slots := 6, locals := 127 } [.ref (AD 0), .int (nI k), .int (nI k2), .ref (ou)] (wsD g AD LL EE lc ec) ou v 0 (wsD g AD LL EE lc ec) ((fsF (fun j => eqR ((LL k).1) j ((LL k2).1) 0 ((LL k2).2.2)) ((LL k).2.2 + 1 - (LL k2).2.2) 0).toInt64) := by
  refine lr_of (cc := cL_firstOf) (maxL := 5) (by decide) rfl (Nat.le_of_ble_eq_true rfl) ?_
  intro p e s m args below meth c ls Q hx hb hml hts hown hK hZ hP hO hD hNo htab hl hret
  have hl : lv_has ls 5 [(0, .ref (AD 0)), (1, .int (nI k)), (2, .int (nI k2)), (3, .ref (ou))] := hl
  have S : CallFix p m c cL_firstOf 5 s args wsL_firstOf RL := ⟨hx, hb, hml, hown, hts⟩
  have hAo : ∀ k, k < 87 → ¬ AD k = ou := dk_no hNo
  refine W.widen (Nat.zero_le 1) (Nat.zero_le 6) ?_
  refine lv_aload_n hx hb dL_firstOf_0 rfl (lv_at hl 3 rfl) ?_
  refine lv_iconst (v := 0) hx hb dL_firstOf_1 (by decide +kernel) ?_
  refine lv_aload_n hx hb dL_firstOf_2 rfl (lv_at hl 0 rfl) ?_
  refine lv_iload_n hx hb dL_firstOf_3 rfl (lv_at hl 1 rfl) ?_
  refine lv_iload_n hx hb dL_firstOf_4 rfl (lv_at hl 2 rfl) ?_
  obtain ⟨H, eH⟩ : ∃ H : Heap, H = s.heap := ⟨_, rfl⟩
  have hS : va_S (lA (wsD g AD LL EE lc ec) ou) s.heap H [] := by rw [eH]; exact va_S.rf
  rw [← eH] at hP hO
  rw [← eH]
  refine p_V (As := [.int (nI k), .int (nI k2)]) (rest := [.int (0), .ref (ou)]) S (c_X2_firstOf l g AD LL EE LN lc ec hlc hec hLL hEE k hk k2 hk2 hn1) (cwV 2 hts gL_firstOf_X2_firstOf rfl rfl rfl (by decide +kernel) ⟨Nat.le_of_ble_eq_true rfl, Nat.le_of_ble_eq_true rfl⟩) hK (va_recv hK.1 hP (ci := 2) (q0 := 0) rfl dk_me) hP rfl hl.1 rfl (Nat.le_of_ble_eq_true rfl) dL_firstOf_5 ⟨Nat.le_of_ble_eq_true rfl, Nat.le_of_ble_eq_true rfl⟩ ?_
  refine lv_i2l (v := (fsF (fun j => eqR ((LL k).1) j ((LL k2).1) 0 ((LL k2).2.2)) ((LL k).2.2 + 1 - (LL k2).2.2) 0).toInt64) hx hb dL_firstOf_8 rfl ?_
  refine st_J (o := ou) (cA := gJ g) (v := v) (x := (fsF (fun j => eqR ((LL k).1) j ((LL k2).1) 0 ((LL k2).2.2)) ((LL k).2.2 + 1 - (LL k2).2.2) 0).toInt64) (A := lA (wsD g AD LL EE lc ec) ou) hx hb hK.1 hO (Or.inr rfl) hS 3 rfl dL_firstOf_9 (fun H locs hO hk2 hS => ?_)
  have hP := dk_keep hP hk2 hAo
  refine lv_goto (tgt := 21) hx hb dL_firstOf_10 (by decide) ?_
  refine lv_iconst (v := 0) hx hb dL_firstOf_21 (by decide +kernel) ?_
  exact hret _ _ _ _ hP hO hS dL_firstOf_22

set_option maxHeartbeats 4000000 in
set_option maxRecDepth 100000 in
/-- the law's own firstOf_x -/
theorem c_L_firstOf_x (l : Launch) (hlt : l.stackTraces = false) (g : gT) (AD : Nat → Nat) (LL : Nat → ltT) (EE : Nat → evT) (LN : Nat → Nat) (lc ec : Nat) (hlc : lc ≤ 12) (hec : ec ≤ 24) (hLL : ∀ i, i < 12 → (LL i).2.2 ≤ 40) (hEE : ∀ q, q < ec → (EE q).1 = nI (LN q) ∧ LN q < lc ∧ (EE q).2.2.1 ≤ 40 ∧ (EE q).2.2.2.1 ≤ 8) (x : Int32) (hxb : inB x lc = false) (y : Int32) (ou : Nat) (v : Int64) : lM g l yL_firstOf wsL_firstOf { frames := 8, cells := 1, slots := 6, locals := 127 } [.ref (AD 0), .int (x), .int (y), .ref (ou)] (wsD g AD LL EE lc ec) ou v 1 (wsD g AD LL EE lc ec) (v) := by
  refine lr_of (cc := cL_firstOf) (maxL := 5) (by decide) rfl (Nat.le_of_ble_eq_true rfl) ?_
  intro p e s m args below meth c ls Q hx hb hml hts hown hK hZ hP hO hD hNo htab hl hret
  have hl : lv_has ls 5 [(0, .ref (AD 0)), (1, .int (x)), (2, .int (y)), (3, .ref (ou))] := hl
  have S : CallFix p m c cL_firstOf 5 s args wsL_firstOf RL := ⟨hx, hb, hml, hown, hts⟩
  have hAo : ∀ k, k < 87 → ¬ AD k = ou := dk_no hNo
  refine lv_aload_n hx hb dL_firstOf_0 rfl (lv_at hl 3 rfl) ?_
  refine lv_iconst (v := 0) hx hb dL_firstOf_1 (by decide +kernel) ?_
  refine lv_aload_n hx hb dL_firstOf_2 rfl (lv_at hl 0 rfl) ?_
  refine lv_iload_n hx hb dL_firstOf_3 rfl (lv_at hl 1 rfl) ?_
  refine lv_iload_n hx hb dL_firstOf_4 rfl (lv_at hl 2 rfl) ?_
  refine lx_V (E := "java/lang/IndexOutOfBoundsException") (As := [.int (x), .int (y)]) (rest := [.int (0), .ref (ou)]) S (c_X2_firstOf_x l hlt g AD LL EE LN lc ec hlc hec hLL hEE x hxb y) (cwV 2 hts gL_firstOf_X2_firstOf rfl rfl rfl (by decide +kernel) ⟨Nat.le_of_ble_eq_true rfl, Nat.le_of_ble_eq_true rfl⟩) hK hZ (va_recv hK.1 hP (ci := 2) (q0 := 0) rfl dk_me) hP rfl hl.1 rfl (Nat.le_of_ble_eq_true rfl) dL_firstOf_5 ⟨Nat.le_of_ble_eq_true rfl, Nat.le_of_ble_eq_true rfl⟩ [] ⟨0, 10, 13, 19⟩ [⟨0, 10, 17, 13⟩] htab (fun _ h9 => absurd h9 List.not_mem_nil) (by decide) (by decide) (hts (.classLink RL 19 "java/lang/IndexOutOfBoundsException") (by decide +kernel)) (List.mem_of_getElem? (i := 0) rfl) (fun H qx hz1 hk1 => ?_)
  have hP := dk_old hP hk1
  have hO := out_old hO hk1
  have hS : va_S (lA (wsD g AD LL EE lc ec) ou) s.heap H [] := ⟨hz1, fun q h1 _ => hk1 q h1, fun q h => nomatch h⟩
  refine lv_astore (lv' := [(4, .ref (qx)), (0, .ref (AD 0)), (1, .int (x)), (2, .int (y)), (3, .ref (ou))]) hx hb dL_firstOf_13 hl (by decide) rfl (fun ls hl => ?_)
  refine lv_iconst (v := 1) hx hb dL_firstOf_15 (by decide +kernel) ?_
  exact hret _ _ _ _ hP hO hS dL_firstOf_16

set_option maxHeartbeats 4000000 in
set_option maxRecDepth 100000 in
/-- the law's own firstOf_y -/
theorem c_L_firstOf_y (l : Launch) (hlt : l.stackTraces = false) (g : gT) (AD : Nat → Nat) (LL : Nat → ltT) (EE : Nat → evT) (LN : Nat → Nat) (lc ec : Nat) (hlc : lc ≤ 12) (hec : ec ≤ 24) (hLL : ∀ i, i < 12 → (LL i).2.2 ≤ 40) (hEE : ∀ q, q < ec → (EE q).1 = nI (LN q) ∧ LN q < lc ∧ (EE q).2.2.1 ≤ 40 ∧ (EE q).2.2.2.1 ≤ 8) (k : Nat) (hk : k < lc) (y : Int32) (hy : inB y lc = false) (ou : Nat) (v : Int64) : lM g l yL_firstOf wsL_firstOf { frames := 8, cells := 1, slots := 6, locals := 127 } [.ref (AD 0), .int (nI k), .int (y), .ref (ou)] (wsD g AD LL EE lc ec) ou v 1 (wsD g AD LL EE lc ec) (v) := by
  refine lr_of (cc := cL_firstOf) (maxL := 5) (by decide) rfl (Nat.le_of_ble_eq_true rfl) ?_
  intro p e s m args below meth c ls Q hx hb hml hts hown hK hZ hP hO hD hNo htab hl hret
  have hl : lv_has ls 5 [(0, .ref (AD 0)), (1, .int (nI k)), (2, .int (y)), (3, .ref (ou))] := hl
  have S : CallFix p m c cL_firstOf 5 s args wsL_firstOf RL := ⟨hx, hb, hml, hown, hts⟩
  have hAo : ∀ k, k < 87 → ¬ AD k = ou := dk_no hNo
  refine lv_aload_n hx hb dL_firstOf_0 rfl (lv_at hl 3 rfl) ?_
  refine lv_iconst (v := 0) hx hb dL_firstOf_1 (by decide +kernel) ?_
  refine lv_aload_n hx hb dL_firstOf_2 rfl (lv_at hl 0 rfl) ?_
  refine lv_iload_n hx hb dL_firstOf_3 rfl (lv_at hl 1 rfl) ?_
  refine lv_iload_n hx hb dL_firstOf_4 rfl (lv_at hl 2 rfl) ?_
  refine lx_V (E := "java/lang/IndexOutOfBoundsException") (As := [.int (nI k), .int (y)]) (rest := [.int (0), .ref (ou)]) S (c_X2_firstOf_y l hlt g AD LL EE LN lc ec hlc hec hLL hEE k hk y hy) (cwV 2 hts gL_firstOf_X2_firstOf rfl rfl rfl (by decide +kernel) ⟨Nat.le_of_ble_eq_true rfl, Nat.le_of_ble_eq_true rfl⟩) hK hZ (va_recv hK.1 hP (ci := 2) (q0 := 0) rfl dk_me) hP rfl hl.1 rfl (Nat.le_of_ble_eq_true rfl) dL_firstOf_5 ⟨Nat.le_of_ble_eq_true rfl, Nat.le_of_ble_eq_true rfl⟩ [] ⟨0, 10, 13, 19⟩ [⟨0, 10, 17, 13⟩] htab (fun _ h9 => absurd h9 List.not_mem_nil) (by decide) (by decide) (hts (.classLink RL 19 "java/lang/IndexOutOfBoundsException") (by decide +kernel)) (List.mem_of_getElem? (i := 0) rfl) (fun H qx hz1 hk1 => ?_)
  have hP := dk_old hP hk1
  have hO := out_old hO hk1
  have hS : va_S (lA (wsD g AD LL EE lc ec) ou) s.heap H [] := ⟨hz1, fun q h1 _ => hk1 q h1, fun q h => nomatch h⟩
  refine lv_astore (lv' := [(4, .ref (qx)), (0, .ref (AD 0)), (1, .int (nI k)), (2, .int (y)), (3, .ref (ou))]) hx hb dL_firstOf_13 hl (by decide) rfl (fun ls hl => ?_)
  refine lv_iconst (v := 1) hx hb dL_firstOf_15 (by decide +kernel) ?_
  exact hret _ _ _ _ hP hO hS dL_firstOf_16

set_option maxHeartbeats 4000000 in
set_option maxRecDepth 100000 in
/-- the law's own firstOf_s -/
theorem c_L_firstOf_s (l : Launch) (hlt : l.stackTraces = false) (g : gT) (AD : Nat → Nat) (LL : Nat → ltT) (EE : Nat → evT) (LN : Nat → Nat) (lc ec : Nat) (hlc : lc ≤ 12) (hec : ec ≤ 24) (hLL : ∀ i, i < 12 → (LL i).2.2 ≤ 40) (hEE : ∀ q, q < ec → (EE q).1 = nI (LN q) ∧ LN q < lc ∧ (EE q).2.2.1 ≤ 40 ∧ (EE q).2.2.2.1 ≤ 8) (k : Nat) (hk : k < lc) (k2 : Nat) (hk2 : k2 < lc) (hn1 : (LL k2).2.2 = 0) (ou : Nat) (v : Int64) : lM g l yL_firstOf wsL_firstOf { frames := 8, cells := 1, slots := 6, locals := 127 } [.ref (AD 0), .int (nI k), .int (nI k2), .ref (ou)] (wsD g AD LL EE lc ec) ou v 2 (wsD g AD LL EE lc ec) (v) := by
  refine lr_of (cc := cL_firstOf) (maxL := 5) (by decide) rfl (Nat.le_of_ble_eq_true rfl) ?_
  intro p e s m args below meth c ls Q hx hb hml hts hown hK hZ hP hO hD hNo htab hl hret
  have hl : lv_has ls 5 [(0, .ref (AD 0)), (1, .int (nI k)), (2, .int (nI k2)), (3, .ref (ou))] := hl
  have S : CallFix p m c cL_firstOf 5 s args wsL_firstOf RL := ⟨hx, hb, hml, hown, hts⟩
  have hAo : ∀ k, k < 87 → ¬ AD k = ou := dk_no hNo
  refine lv_aload_n hx hb dL_firstOf_0 rfl (lv_at hl 3 rfl) ?_
  refine lv_iconst (v := 0) hx hb dL_firstOf_1 (by decide +kernel) ?_
  refine lv_aload_n hx hb dL_firstOf_2 rfl (lv_at hl 0 rfl) ?_
  refine lv_iload_n hx hb dL_firstOf_3 rfl (lv_at hl 1 rfl) ?_
  refine lv_iload_n hx hb dL_firstOf_4 rfl (lv_at hl 2 rfl) ?_
  refine lx_V (E := "java/lang/IllegalStateException") (As := [.int (nI k), .int (nI k2)]) (rest := [.int (0), .ref (ou)]) S (c_X2_firstOf_s l hlt g AD LL EE LN lc ec hlc hec hLL hEE k hk k2 hk2 hn1) (cwV 2 hts gL_firstOf_X2_firstOf rfl rfl rfl (by decide +kernel) ⟨Nat.le_of_ble_eq_true rfl, Nat.le_of_ble_eq_true rfl⟩) hK hZ (va_recv hK.1 hP (ci := 2) (q0 := 0) rfl dk_me) hP rfl hl.1 rfl (Nat.le_of_ble_eq_true rfl) dL_firstOf_5 ⟨Nat.le_of_ble_eq_true rfl, Nat.le_of_ble_eq_true rfl⟩ [⟨0, 10, 13, 19⟩] ⟨0, 10, 17, 13⟩ [] htab (List.forall_mem_cons.mpr ⟨Or.inr ⟨by decide, "java/lang/IndexOutOfBoundsException", hts (.classLink RL 19 "java/lang/IndexOutOfBoundsException") (by decide +kernel), hK.2.2.2.2.2.2 ("java/lang/IllegalStateException", "java/lang/IndexOutOfBoundsException") (List.mem_of_getElem? (i := 1) rfl)⟩, fun _ h9 => absurd h9 List.not_mem_nil⟩) (by decide) (by decide) (hts (.classLink RL 13 "java/lang/IllegalStateException") (by decide +kernel)) (List.mem_of_getElem? (i := 2) rfl) (fun H qx hz1 hk1 => ?_)
  have hP := dk_old hP hk1
  have hO := out_old hO hk1
  have hS : va_S (lA (wsD g AD LL EE lc ec) ou) s.heap H [] := ⟨hz1, fun q h1 _ => hk1 q h1, fun q h => nomatch h⟩
  refine lv_astore (lv' := [(4, .ref (qx)), (0, .ref (AD 0)), (1, .int (nI k)), (2, .int (nI k2)), (3, .ref (ou))]) hx hb dL_firstOf_17 hl (by decide) rfl (fun ls hl => ?_)
  refine lv_iconst (v := 2) hx hb dL_firstOf_19 (by decide +kernel) ?_
  exact hret _ _ _ _ hP hO hS dL_firstOf_20

set_option maxHeartbeats 4000000 in
set_option maxRecDepth 100000 in
/-- the law's own letterIn -/
theorem c_L_letterIn (l : Launch) (g : gT) (AD : Nat → Nat) (LL : Nat → ltT) (EE : Nat → evT) (LN : Nat → Nat) (lc ec : Nat) (hlc : lc ≤ 12) (hec : ec ≤ 24) (hLL : ∀ i, i < 12 → (LL i).2.2 ≤ 40) (hEE : ∀ q, q < ec → (EE q).1 = nI (LN q) ∧ LN q < lc ∧ (EE q).2.2.1 ≤ 40 ∧ (EE q).2.2.2.1 ≤ 8) (q : Nat) (hq : q < ec) (ou : Nat) (v : Int64) : lM g l yL_letterIn wsL_letterIn { frames := 8, cells := 1, slots := 6, locals := 124 } [.ref (AD 0), .int (nI q), .ref (ou)] (wsD g AD LL EE lc ec) ou v 0 (wsD g AD LL EE lc ec) ((nI (LN q)).toInt64) := by
  refine lr_of (cc := cL_letterIn) (maxL := 4) (by decide) rfl (Nat.le_of_ble_eq_true rfl) ?_
  intro p e s m args below meth c ls Q hx hb hml hts hown hK hZ hP hO hD hNo htab hl hret
  have hl : lv_has ls 4 [(0, .ref (AD 0)), (1, .int (nI q)), (2, .ref (ou))] := hl
  have S : CallFix p m c cL_letterIn 4 s args wsL_letterIn RL := ⟨hx, hb, hml, hown, hts⟩
  have hAo : ∀ k, k < 87 → ¬ AD k = ou := dk_no hNo
  refine W.widen (Nat.zero_le 1) (Nat.zero_le 6) ?_
  refine lv_aload_n hx hb dL_letterIn_0 rfl (lv_at hl 2 rfl) ?_
  refine lv_iconst (v := 0) hx hb dL_letterIn_1 (by decide +kernel) ?_
  refine lv_aload_n hx hb dL_letterIn_2 rfl (lv_at hl 0 rfl) ?_
  refine lv_iload_n hx hb dL_letterIn_3 rfl (lv_at hl 1 rfl) ?_
  obtain ⟨H, eH⟩ : ∃ H : Heap, H = s.heap := ⟨_, rfl⟩
  have hS : va_S (lA (wsD g AD LL EE lc ec) ou) s.heap H [] := by rw [eH]; exact va_S.rf
  rw [← eH] at hP hO
  rw [← eH]
  refine p_V (As := [.int (nI q)]) (rest := [.int (0), .ref (ou)]) S (c_X2_letterIn l g AD LL EE LN lc ec hlc hec hLL hEE q hq) (cwV 1 hts gL_letterIn_X2_letterIn rfl rfl rfl (by decide +kernel) ⟨Nat.le_of_ble_eq_true rfl, Nat.le_of_ble_eq_true rfl⟩) hK (va_recv hK.1 hP (ci := 2) (q0 := 0) rfl dk_me) hP rfl hl.1 rfl (Nat.le_of_ble_eq_true rfl) dL_letterIn_4 ⟨Nat.le_of_ble_eq_true rfl, Nat.le_of_ble_eq_true rfl⟩ ?_
  refine lv_i2l (v := (nI (LN q)).toInt64) hx hb dL_letterIn_7 rfl ?_
  refine st_J (o := ou) (cA := gJ g) (v := v) (x := (nI (LN q)).toInt64) (A := lA (wsD g AD LL EE lc ec) ou) hx hb hK.1 hO (Or.inr rfl) hS 3 rfl dL_letterIn_8 (fun H locs hO hk2 hS => ?_)
  have hP := dk_keep hP hk2 hAo
  refine lv_goto (tgt := 15) hx hb dL_letterIn_9 (by decide) ?_
  refine lv_iconst (v := 0) hx hb dL_letterIn_15 (by decide +kernel) ?_
  exact hret _ _ _ _ hP hO hS dL_letterIn_16

set_option maxHeartbeats 4000000 in
set_option maxRecDepth 100000 in
/-- the law's own letterIn_x -/
theorem c_L_letterIn_x (l : Launch) (hlt : l.stackTraces = false) (g : gT) (AD : Nat → Nat) (LL : Nat → ltT) (EE : Nat → evT) (LN : Nat → Nat) (lc ec : Nat) (hlc : lc ≤ 12) (hec : ec ≤ 24) (hLL : ∀ i, i < 12 → (LL i).2.2 ≤ 40) (hEE : ∀ q, q < ec → (EE q).1 = nI (LN q) ∧ LN q < lc ∧ (EE q).2.2.1 ≤ 40 ∧ (EE q).2.2.2.1 ≤ 8) (x : Int32) (hxb : inB x ec = false) (ou : Nat) (v : Int64) : lM g l yL_letterIn wsL_letterIn { frames := 8, cells := 1, slots := 6, locals := 124 } [.ref (AD 0), .int (x), .ref (ou)] (wsD g AD LL EE lc ec) ou v 1 (wsD g AD LL EE lc ec) (v) := by
  refine lr_of (cc := cL_letterIn) (maxL := 4) (by decide) rfl (Nat.le_of_ble_eq_true rfl) ?_
  intro p e s m args below meth c ls Q hx hb hml hts hown hK hZ hP hO hD hNo htab hl hret
  have hl : lv_has ls 4 [(0, .ref (AD 0)), (1, .int (x)), (2, .ref (ou))] := hl
  have S : CallFix p m c cL_letterIn 4 s args wsL_letterIn RL := ⟨hx, hb, hml, hown, hts⟩
  have hAo : ∀ k, k < 87 → ¬ AD k = ou := dk_no hNo
  refine lv_aload_n hx hb dL_letterIn_0 rfl (lv_at hl 2 rfl) ?_
  refine lv_iconst (v := 0) hx hb dL_letterIn_1 (by decide +kernel) ?_
  refine lv_aload_n hx hb dL_letterIn_2 rfl (lv_at hl 0 rfl) ?_
  refine lv_iload_n hx hb dL_letterIn_3 rfl (lv_at hl 1 rfl) ?_
  refine lx_V (E := "java/lang/IndexOutOfBoundsException") (As := [.int (x)]) (rest := [.int (0), .ref (ou)]) S (c_X2_letterIn_x l hlt g AD LL EE LN lc ec hlc hec hLL hEE x hxb) (cwV 1 hts gL_letterIn_X2_letterIn rfl rfl rfl (by decide +kernel) ⟨Nat.le_of_ble_eq_true rfl, Nat.le_of_ble_eq_true rfl⟩) hK hZ (va_recv hK.1 hP (ci := 2) (q0 := 0) rfl dk_me) hP rfl hl.1 rfl (Nat.le_of_ble_eq_true rfl) dL_letterIn_4 ⟨Nat.le_of_ble_eq_true rfl, Nat.le_of_ble_eq_true rfl⟩ [] ⟨0, 9, 12, 19⟩ [] htab (fun _ h9 => absurd h9 List.not_mem_nil) (by decide) (by decide) (hts (.classLink RL 19 "java/lang/IndexOutOfBoundsException") (by decide +kernel)) (List.mem_of_getElem? (i := 0) rfl) (fun H qx hz1 hk1 => ?_)
  have hP := dk_old hP hk1
  have hO := out_old hO hk1
  have hS : va_S (lA (wsD g AD LL EE lc ec) ou) s.heap H [] := ⟨hz1, fun q h1 _ => hk1 q h1, fun q h => nomatch h⟩
  refine lv_astore_n (lv' := [(3, .ref (qx)), (0, .ref (AD 0)), (1, .int (x)), (2, .ref (ou))]) hx hb dL_letterIn_12 rfl hl (by decide) rfl (fun ls hl => ?_)
  refine lv_iconst (v := 1) hx hb dL_letterIn_13 (by decide +kernel) ?_
  exact hret _ _ _ _ hP hO hS dL_letterIn_14

set_option maxHeartbeats 4000000 in
set_option maxRecDepth 100000 in
/-- the law's own digestIn -/
theorem c_L_digestIn (l : Launch) (g : gT) (AD : Nat → Nat) (LL : Nat → ltT) (EE : Nat → evT) (LN : Nat → Nat) (lc ec : Nat) (hlc : lc ≤ 12) (hec : ec ≤ 24) (hLL : ∀ i, i < 12 → (LL i).2.2 ≤ 40) (hEE : ∀ q, q < ec → (EE q).1 = nI (LN q) ∧ LN q < lc ∧ (EE q).2.2.1 ≤ 40 ∧ (EE q).2.2.2.1 ≤ 8) (q : Nat) (hq : q < ec) (ou : Nat) (v : Int64) : lM g l yL_digestIn wsL_digestIn { frames := 8, cells := 1, slots := 6, locals := 124 } [.ref (AD 0), .int (nI q), .ref (ou)] (wsD g AD LL EE lc ec) ou v 0 (wsD g AD LL EE lc ec) (((EE q).2.1).toInt64) := by
  refine lr_of (cc := cL_digestIn) (maxL := 4) (by decide) rfl (Nat.le_of_ble_eq_true rfl) ?_
  intro p e s m args below meth c ls Q hx hb hml hts hown hK hZ hP hO hD hNo htab hl hret
  have hl : lv_has ls 4 [(0, .ref (AD 0)), (1, .int (nI q)), (2, .ref (ou))] := hl
  have S : CallFix p m c cL_digestIn 4 s args wsL_digestIn RL := ⟨hx, hb, hml, hown, hts⟩
  have hAo : ∀ k, k < 87 → ¬ AD k = ou := dk_no hNo
  refine W.widen (Nat.zero_le 1) (Nat.zero_le 6) ?_
  refine lv_aload_n hx hb dL_digestIn_0 rfl (lv_at hl 2 rfl) ?_
  refine lv_iconst (v := 0) hx hb dL_digestIn_1 (by decide +kernel) ?_
  refine lv_aload_n hx hb dL_digestIn_2 rfl (lv_at hl 0 rfl) ?_
  refine lv_iload_n hx hb dL_digestIn_3 rfl (lv_at hl 1 rfl) ?_
  obtain ⟨H, eH⟩ : ∃ H : Heap, H = s.heap := ⟨_, rfl⟩
  have hS : va_S (lA (wsD g AD LL EE lc ec) ou) s.heap H [] := by rw [eH]; exact va_S.rf
  rw [← eH] at hP hO
  rw [← eH]
  refine p_V (As := [.int (nI q)]) (rest := [.int (0), .ref (ou)]) S (c_X2_digestIn l g AD LL EE LN lc ec hlc hec hLL hEE q hq) (cwV 1 hts gL_digestIn_X2_digestIn rfl rfl rfl (by decide +kernel) ⟨Nat.le_of_ble_eq_true rfl, Nat.le_of_ble_eq_true rfl⟩) hK (va_recv hK.1 hP (ci := 2) (q0 := 0) rfl dk_me) hP rfl hl.1 rfl (Nat.le_of_ble_eq_true rfl) dL_digestIn_4 ⟨Nat.le_of_ble_eq_true rfl, Nat.le_of_ble_eq_true rfl⟩ ?_
  refine lv_i2l (v := ((EE q).2.1).toInt64) hx hb dL_digestIn_7 rfl ?_
  refine st_J (o := ou) (cA := gJ g) (v := v) (x := ((EE q).2.1).toInt64) (A := lA (wsD g AD LL EE lc ec) ou) hx hb hK.1 hO (Or.inr rfl) hS 3 rfl dL_digestIn_8 (fun H locs hO hk2 hS => ?_)
  have hP := dk_keep hP hk2 hAo
  refine lv_goto (tgt := 15) hx hb dL_digestIn_9 (by decide) ?_
  refine lv_iconst (v := 0) hx hb dL_digestIn_15 (by decide +kernel) ?_
  exact hret _ _ _ _ hP hO hS dL_digestIn_16

set_option maxHeartbeats 4000000 in
set_option maxRecDepth 100000 in
/-- the law's own digestIn_x -/
theorem c_L_digestIn_x (l : Launch) (hlt : l.stackTraces = false) (g : gT) (AD : Nat → Nat) (LL : Nat → ltT) (EE : Nat → evT) (LN : Nat → Nat) (lc ec : Nat) (hlc : lc ≤ 12) (hec : ec ≤ 24) (hLL : ∀ i, i < 12 → (LL i).2.2 ≤ 40) (hEE : ∀ q, q < ec → (EE q).1 = nI (LN q) ∧ LN q < lc ∧ (EE q).2.2.1 ≤ 40 ∧ (EE q).2.2.2.1 ≤ 8) (x : Int32) (hxb : inB x ec = false) (ou : Nat) (v : Int64) : lM g l yL_digestIn wsL_digestIn { frames := 8, cells := 1, slots := 6, locals := 124 } [.ref (AD 0), .int (x), .ref (ou)] (wsD g AD LL EE lc ec) ou v 1 (wsD g AD LL EE lc ec) (v) := by
  refine lr_of (cc := cL_digestIn) (maxL := 4) (by decide) rfl (Nat.le_of_ble_eq_true rfl) ?_
  intro p e s m args below meth c ls Q hx hb hml hts hown hK hZ hP hO hD hNo htab hl hret
  have hl : lv_has ls 4 [(0, .ref (AD 0)), (1, .int (x)), (2, .ref (ou))] := hl
  have S : CallFix p m c cL_digestIn 4 s args wsL_digestIn RL := ⟨hx, hb, hml, hown, hts⟩
  have hAo : ∀ k, k < 87 → ¬ AD k = ou := dk_no hNo
  refine lv_aload_n hx hb dL_digestIn_0 rfl (lv_at hl 2 rfl) ?_
  refine lv_iconst (v := 0) hx hb dL_digestIn_1 (by decide +kernel) ?_
  refine lv_aload_n hx hb dL_digestIn_2 rfl (lv_at hl 0 rfl) ?_
  refine lv_iload_n hx hb dL_digestIn_3 rfl (lv_at hl 1 rfl) ?_
  refine lx_V (E := "java/lang/IndexOutOfBoundsException") (As := [.int (x)]) (rest := [.int (0), .ref (ou)]) S (c_X2_digestIn_x l hlt g AD LL EE LN lc ec hlc hec hLL hEE x hxb) (cwV 1 hts gL_digestIn_X2_digestIn rfl rfl rfl (by decide +kernel) ⟨Nat.le_of_ble_eq_true rfl, Nat.le_of_ble_eq_true rfl⟩) hK hZ (va_recv hK.1 hP (ci := 2) (q0 := 0) rfl dk_me) hP rfl hl.1 rfl (Nat.le_of_ble_eq_true rfl) dL_digestIn_4 ⟨Nat.le_of_ble_eq_true rfl, Nat.le_of_ble_eq_true rfl⟩ [] ⟨0, 9, 12, 19⟩ [] htab (fun _ h9 => absurd h9 List.not_mem_nil) (by decide) (by decide) (hts (.classLink RL 19 "java/lang/IndexOutOfBoundsException") (by decide +kernel)) (List.mem_of_getElem? (i := 0) rfl) (fun H qx hz1 hk1 => ?_)
  have hP := dk_old hP hk1
  have hO := out_old hO hk1
  have hS : va_S (lA (wsD g AD LL EE lc ec) ou) s.heap H [] := ⟨hz1, fun q h1 _ => hk1 q h1, fun q h => nomatch h⟩
  refine lv_astore_n (lv' := [(3, .ref (qx)), (0, .ref (AD 0)), (1, .int (x)), (2, .ref (ou))]) hx hb dL_digestIn_12 rfl hl (by decide) rfl (fun ls hl => ?_)
  refine lv_iconst (v := 1) hx hb dL_digestIn_13 (by decide +kernel) ?_
  exact hret _ _ _ _ hP hO hS dL_digestIn_14

set_option maxHeartbeats 4000000 in
set_option maxRecDepth 100000 in
/-- the law's own sealOf -/
theorem c_L_sealOf (l : Launch) (g : gT) (AD : Nat → Nat) (LL : Nat → ltT) (EE : Nat → evT) (LN : Nat → Nat) (lc ec : Nat) (hlc : lc ≤ 12) (hec : ec ≤ 24) (hLL : ∀ i, i < 12 → (LL i).2.2 ≤ 40) (hEE : ∀ q, q < ec → (EE q).1 = nI (LN q) ∧ LN q < lc ∧ (EE q).2.2.1 ≤ 40 ∧ (EE q).2.2.2.1 ≤ 8) (q : Nat) (hq : q < ec) (ou : Nat) (v : Int64) : lM g l yL_sealOf wsL_sealOf { frames := 8, cells := 1, slots := 6, locals := 124 } [.ref (AD 0), .int (nI q), .ref (ou)] (wsD g AD LL EE lc ec) ou v 0 (wsD g AD LL EE lc ec) (((EE q).2.2.2.2.2.2.1).toInt64) := by
  refine lr_of (cc := cL_sealOf) (maxL := 4) (by decide) rfl (Nat.le_of_ble_eq_true rfl) ?_
  intro p e s m args below meth c ls Q hx hb hml hts hown hK hZ hP hO hD hNo htab hl hret
  have hl : lv_has ls 4 [(0, .ref (AD 0)), (1, .int (nI q)), (2, .ref (ou))] := hl
  have S : CallFix p m c cL_sealOf 4 s args wsL_sealOf RL := ⟨hx, hb, hml, hown, hts⟩
  have hAo : ∀ k, k < 87 → ¬ AD k = ou := dk_no hNo
  refine W.widen (Nat.zero_le 1) (Nat.zero_le 6) ?_
  refine lv_aload_n hx hb dL_sealOf_0 rfl (lv_at hl 2 rfl) ?_
  refine lv_iconst (v := 0) hx hb dL_sealOf_1 (by decide +kernel) ?_
  refine lv_aload_n hx hb dL_sealOf_2 rfl (lv_at hl 0 rfl) ?_
  refine lv_iload_n hx hb dL_sealOf_3 rfl (lv_at hl 1 rfl) ?_
  obtain ⟨H, eH⟩ : ∃ H : Heap, H = s.heap := ⟨_, rfl⟩
  have hS : va_S (lA (wsD g AD LL EE lc ec) ou) s.heap H [] := by rw [eH]; exact va_S.rf
  rw [← eH] at hP hO
  rw [← eH]
  refine p_V (As := [.int (nI q)]) (rest := [.int (0), .ref (ou)]) S (c_X2_sealOf l g AD LL EE LN lc ec hlc hec hLL hEE q hq) (cwV 1 hts gL_sealOf_X2_sealOf rfl rfl rfl (by decide +kernel) ⟨Nat.le_of_ble_eq_true rfl, Nat.le_of_ble_eq_true rfl⟩) hK (va_recv hK.1 hP (ci := 2) (q0 := 0) rfl dk_me) hP rfl hl.1 rfl (Nat.le_of_ble_eq_true rfl) dL_sealOf_4 ⟨Nat.le_of_ble_eq_true rfl, Nat.le_of_ble_eq_true rfl⟩ ?_
  refine lv_i2l (v := ((EE q).2.2.2.2.2.2.1).toInt64) hx hb dL_sealOf_7 rfl ?_
  refine st_J (o := ou) (cA := gJ g) (v := v) (x := ((EE q).2.2.2.2.2.2.1).toInt64) (A := lA (wsD g AD LL EE lc ec) ou) hx hb hK.1 hO (Or.inr rfl) hS 3 rfl dL_sealOf_8 (fun H locs hO hk2 hS => ?_)
  have hP := dk_keep hP hk2 hAo
  refine lv_goto (tgt := 15) hx hb dL_sealOf_9 (by decide) ?_
  refine lv_iconst (v := 0) hx hb dL_sealOf_15 (by decide +kernel) ?_
  exact hret _ _ _ _ hP hO hS dL_sealOf_16

set_option maxHeartbeats 4000000 in
set_option maxRecDepth 100000 in
/-- the law's own sealOf_x -/
theorem c_L_sealOf_x (l : Launch) (hlt : l.stackTraces = false) (g : gT) (AD : Nat → Nat) (LL : Nat → ltT) (EE : Nat → evT) (LN : Nat → Nat) (lc ec : Nat) (hlc : lc ≤ 12) (hec : ec ≤ 24) (hLL : ∀ i, i < 12 → (LL i).2.2 ≤ 40) (hEE : ∀ q, q < ec → (EE q).1 = nI (LN q) ∧ LN q < lc ∧ (EE q).2.2.1 ≤ 40 ∧ (EE q).2.2.2.1 ≤ 8) (x : Int32) (hxb : inB x ec = false) (ou : Nat) (v : Int64) : lM g l yL_sealOf wsL_sealOf { frames := 8, cells := 1, slots := 6, locals := 124 } [.ref (AD 0), .int (x), .ref (ou)] (wsD g AD LL EE lc ec) ou v 1 (wsD g AD LL EE lc ec) (v) := by
  refine lr_of (cc := cL_sealOf) (maxL := 4) (by decide) rfl (Nat.le_of_ble_eq_true rfl) ?_
  intro p e s m args below meth c ls Q hx hb hml hts hown hK hZ hP hO hD hNo htab hl hret
  have hl : lv_has ls 4 [(0, .ref (AD 0)), (1, .int (x)), (2, .ref (ou))] := hl
  have S : CallFix p m c cL_sealOf 4 s args wsL_sealOf RL := ⟨hx, hb, hml, hown, hts⟩
  have hAo : ∀ k, k < 87 → ¬ AD k = ou := dk_no hNo
  refine lv_aload_n hx hb dL_sealOf_0 rfl (lv_at hl 2 rfl) ?_
  refine lv_iconst (v := 0) hx hb dL_sealOf_1 (by decide +kernel) ?_
  refine lv_aload_n hx hb dL_sealOf_2 rfl (lv_at hl 0 rfl) ?_
  refine lv_iload_n hx hb dL_sealOf_3 rfl (lv_at hl 1 rfl) ?_
  refine lx_V (E := "java/lang/IndexOutOfBoundsException") (As := [.int (x)]) (rest := [.int (0), .ref (ou)]) S (c_X2_sealOf_x l hlt g AD LL EE LN lc ec hlc hec hLL hEE x hxb) (cwV 1 hts gL_sealOf_X2_sealOf rfl rfl rfl (by decide +kernel) ⟨Nat.le_of_ble_eq_true rfl, Nat.le_of_ble_eq_true rfl⟩) hK hZ (va_recv hK.1 hP (ci := 2) (q0 := 0) rfl dk_me) hP rfl hl.1 rfl (Nat.le_of_ble_eq_true rfl) dL_sealOf_4 ⟨Nat.le_of_ble_eq_true rfl, Nat.le_of_ble_eq_true rfl⟩ [] ⟨0, 9, 12, 19⟩ [] htab (fun _ h9 => absurd h9 List.not_mem_nil) (by decide) (by decide) (hts (.classLink RL 19 "java/lang/IndexOutOfBoundsException") (by decide +kernel)) (List.mem_of_getElem? (i := 0) rfl) (fun H qx hz1 hk1 => ?_)
  have hP := dk_old hP hk1
  have hO := out_old hO hk1
  have hS : va_S (lA (wsD g AD LL EE lc ec) ou) s.heap H [] := ⟨hz1, fun q h1 _ => hk1 q h1, fun q h => nomatch h⟩
  refine lv_astore_n (lv' := [(3, .ref (qx)), (0, .ref (AD 0)), (1, .int (x)), (2, .ref (ou))]) hx hb dL_sealOf_12 rfl hl (by decide) rfl (fun ls hl => ?_)
  refine lv_iconst (v := 1) hx hb dL_sealOf_13 (by decide +kernel) ?_
  exact hret _ _ _ _ hP hO hS dL_sealOf_14

set_option maxHeartbeats 4000000 in
set_option maxRecDepth 100000 in
/-- the law's own isWhole -/
theorem c_L_isWhole (l : Launch) (g : gT) (AD : Nat → Nat) (LL : Nat → ltT) (EE : Nat → evT) (LN : Nat → Nat) (lc ec : Nat) (hlc : lc ≤ 12) (hec : ec ≤ 24) (hLL : ∀ i, i < 12 → (LL i).2.2 ≤ 40) (hEE : ∀ q, q < ec → (EE q).1 = nI (LN q) ∧ LN q < lc ∧ (EE q).2.2.1 ≤ 40 ∧ (EE q).2.2.2.1 ≤ 8) (q : Nat) (hq : q < ec) (ou : Nat) (v : Int64) : lM g l yL_isWhole wsL_isWhole { frames := 8, cells := 1, slots := 6, locals := 125 } [.ref (AD 0), .int (nI q), .ref (ou)] (wsD g AD LL EE lc ec) ou v 0 (wsD g AD LL EE lc ec) ((bI (ftD LL EE LN q)).toInt64) := by
  refine lr_of (cc := cL_isWhole) (maxL := 4) (by decide) rfl (Nat.le_of_ble_eq_true rfl) ?_
  intro p e s m args below meth c ls Q hx hb hml hts hown hK hZ hP hO hD hNo htab hl hret
  have hl : lv_has ls 4 [(0, .ref (AD 0)), (1, .int (nI q)), (2, .ref (ou))] := hl
  have S : CallFix p m c cL_isWhole 4 s args wsL_isWhole RL := ⟨hx, hb, hml, hown, hts⟩
  have hAo : ∀ k, k < 87 → ¬ AD k = ou := dk_no hNo
  refine W.widen (Nat.zero_le 1) (Nat.zero_le 6) ?_
  refine lv_aload_n hx hb dL_isWhole_0 rfl (lv_at hl 2 rfl) ?_
  refine lv_iconst (v := 0) hx hb dL_isWhole_1 (by decide +kernel) ?_
  refine lv_aload_n hx hb dL_isWhole_2 rfl (lv_at hl 0 rfl) ?_
  refine lv_iload_n hx hb dL_isWhole_3 rfl (lv_at hl 1 rfl) ?_
  obtain ⟨H, eH⟩ : ∃ H : Heap, H = s.heap := ⟨_, rfl⟩
  have hS : va_S (lA (wsD g AD LL EE lc ec) ou) s.heap H [] := by rw [eH]; exact va_S.rf
  rw [← eH] at hP hO
  rw [← eH]
  refine p_V (As := [.int (nI q)]) (rest := [.int (0), .ref (ou)]) S (c_X2_isWhole l g AD LL EE LN lc ec hlc hec hLL hEE q hq) (cwV 1 hts gL_isWhole_X2_isWhole rfl rfl rfl (by decide +kernel) ⟨Nat.le_of_ble_eq_true rfl, Nat.le_of_ble_eq_true rfl⟩) hK (va_recv hK.1 hP (ci := 2) (q0 := 0) rfl dk_me) hP rfl hl.1 rfl (Nat.le_of_ble_eq_true rfl) dL_isWhole_4 ⟨Nat.le_of_ble_eq_true rfl, Nat.le_of_ble_eq_true rfl⟩ ?_
  refine br_eqB (tgt := 14) hx hb dL_isWhole_7 (by decide) (fun c7 => ?_) (fun c7 => ?_)
  · refine lv_lconst (v := 0) hx hb dL_isWhole_14 (by decide +kernel) ?_
    refine lv_toJ (z := (bI (ftD LL EE LN q)).toInt64) (by rw [c7]; decide +kernel) ?_
    refine st_J (o := ou) (cA := gJ g) (v := v) (x := (bI (ftD LL EE LN q)).toInt64) (A := lA (wsD g AD LL EE lc ec) ou) hx hb hK.1 hO (Or.inr rfl) hS 3 rfl dL_isWhole_15 (fun H locs hO hk2 hS => ?_)
    have hP := dk_keep hP hk2 hAo
    refine lv_goto (tgt := 22) hx hb dL_isWhole_16 (by decide) ?_
    refine lv_iconst (v := 0) hx hb dL_isWhole_22 (by decide +kernel) ?_
    exact hret _ _ _ _ hP hO hS dL_isWhole_23
  · refine lv_lconst (v := 1) hx hb dL_isWhole_10 (by decide +kernel) ?_
    refine lv_toJ (z := (bI (ftD LL EE LN q)).toInt64) (by rw [c7]; decide +kernel) ?_
    refine lv_goto (tgt := 15) hx hb dL_isWhole_11 (by decide) ?_
    refine st_J (o := ou) (cA := gJ g) (v := v) (x := (bI (ftD LL EE LN q)).toInt64) (A := lA (wsD g AD LL EE lc ec) ou) hx hb hK.1 hO (Or.inr rfl) hS 3 rfl dL_isWhole_15 (fun H locs hO hk2 hS => ?_)
    have hP := dk_keep hP hk2 hAo
    refine lv_goto (tgt := 22) hx hb dL_isWhole_16 (by decide) ?_
    refine lv_iconst (v := 0) hx hb dL_isWhole_22 (by decide +kernel) ?_
    exact hret _ _ _ _ hP hO hS dL_isWhole_23

set_option maxHeartbeats 4000000 in
set_option maxRecDepth 100000 in
/-- the law's own isWhole_x -/
theorem c_L_isWhole_x (l : Launch) (hlt : l.stackTraces = false) (g : gT) (AD : Nat → Nat) (LL : Nat → ltT) (EE : Nat → evT) (LN : Nat → Nat) (lc ec : Nat) (hlc : lc ≤ 12) (hec : ec ≤ 24) (hLL : ∀ i, i < 12 → (LL i).2.2 ≤ 40) (hEE : ∀ q, q < ec → (EE q).1 = nI (LN q) ∧ LN q < lc ∧ (EE q).2.2.1 ≤ 40 ∧ (EE q).2.2.2.1 ≤ 8) (x : Int32) (hxb : inB x ec = false) (ou : Nat) (v : Int64) : lM g l yL_isWhole wsL_isWhole { frames := 8, cells := 1, slots := 6, locals := 125 } [.ref (AD 0), .int (x), .ref (ou)] (wsD g AD LL EE lc ec) ou v 1 (wsD g AD LL EE lc ec) (v) := by
  refine lr_of (cc := cL_isWhole) (maxL := 4) (by decide) rfl (Nat.le_of_ble_eq_true rfl) ?_
  intro p e s m args below meth c ls Q hx hb hml hts hown hK hZ hP hO hD hNo htab hl hret
  have hl : lv_has ls 4 [(0, .ref (AD 0)), (1, .int (x)), (2, .ref (ou))] := hl
  have S : CallFix p m c cL_isWhole 4 s args wsL_isWhole RL := ⟨hx, hb, hml, hown, hts⟩
  have hAo : ∀ k, k < 87 → ¬ AD k = ou := dk_no hNo
  refine lv_aload_n hx hb dL_isWhole_0 rfl (lv_at hl 2 rfl) ?_
  refine lv_iconst (v := 0) hx hb dL_isWhole_1 (by decide +kernel) ?_
  refine lv_aload_n hx hb dL_isWhole_2 rfl (lv_at hl 0 rfl) ?_
  refine lv_iload_n hx hb dL_isWhole_3 rfl (lv_at hl 1 rfl) ?_
  refine lx_V (E := "java/lang/IndexOutOfBoundsException") (As := [.int (x)]) (rest := [.int (0), .ref (ou)]) S (c_X2_isWhole_x l hlt g AD LL EE LN lc ec hlc hec hLL hEE x hxb) (cwV 1 hts gL_isWhole_X2_isWhole rfl rfl rfl (by decide +kernel) ⟨Nat.le_of_ble_eq_true rfl, Nat.le_of_ble_eq_true rfl⟩) hK hZ (va_recv hK.1 hP (ci := 2) (q0 := 0) rfl dk_me) hP rfl hl.1 rfl (Nat.le_of_ble_eq_true rfl) dL_isWhole_4 ⟨Nat.le_of_ble_eq_true rfl, Nat.le_of_ble_eq_true rfl⟩ [] ⟨0, 16, 19, 19⟩ [] htab (fun _ h9 => absurd h9 List.not_mem_nil) (by decide) (by decide) (hts (.classLink RL 19 "java/lang/IndexOutOfBoundsException") (by decide +kernel)) (List.mem_of_getElem? (i := 0) rfl) (fun H qx hz1 hk1 => ?_)
  have hP := dk_old hP hk1
  have hO := out_old hO hk1
  have hS : va_S (lA (wsD g AD LL EE lc ec) ou) s.heap H [] := ⟨hz1, fun q h1 _ => hk1 q h1, fun q h => nomatch h⟩
  refine lv_astore_n (lv' := [(3, .ref (qx)), (0, .ref (AD 0)), (1, .int (x)), (2, .ref (ou))]) hx hb dL_isWhole_19 rfl hl (by decide) rfl (fun ls hl => ?_)
  refine lv_iconst (v := 1) hx hb dL_isWhole_20 (by decide +kernel) ?_
  exact hret _ _ _ _ hP hO hS dL_isWhole_21

set_option maxHeartbeats 4000000 in
set_option maxRecDepth 100000 in
/-- the law's own tornBlocks -/
theorem c_L_tornBlocks (l : Launch) (g : gT) (AD : Nat → Nat) (LL : Nat → ltT) (EE : Nat → evT) (LN : Nat → Nat) (lc ec : Nat) (hlc : lc ≤ 12) (hec : ec ≤ 24) (hLL : ∀ i, i < 12 → (LL i).2.2 ≤ 40) (hEE : ∀ q, q < ec → (EE q).1 = nI (LN q) ∧ LN q < lc ∧ (EE q).2.2.1 ≤ 40 ∧ (EE q).2.2.2.1 ≤ 8) (q : Nat) (hq : q < ec) (ou : Nat) (v : Int64) : lM g l yL_tornBlocks wsL_tornBlocks { frames := 8, cells := 1, slots := 6, locals := 125 } [.ref (AD 0), .int (nI q), .ref (ou)] (wsD g AD LL EE lc ec) ou v 0 (wsD g AD LL EE lc ec) ((acF (toD LL EE LN q) 0 8).toInt64) := by
  refine lr_of (cc := cL_tornBlocks) (maxL := 4) (by decide) rfl (Nat.le_of_ble_eq_true rfl) ?_
  intro p e s m args below meth c ls Q hx hb hml hts hown hK hZ hP hO hD hNo htab hl hret
  have hl : lv_has ls 4 [(0, .ref (AD 0)), (1, .int (nI q)), (2, .ref (ou))] := hl
  have S : CallFix p m c cL_tornBlocks 4 s args wsL_tornBlocks RL := ⟨hx, hb, hml, hown, hts⟩
  have hAo : ∀ k, k < 87 → ¬ AD k = ou := dk_no hNo
  refine W.widen (Nat.zero_le 1) (Nat.zero_le 6) ?_
  refine lv_aload_n hx hb dL_tornBlocks_0 rfl (lv_at hl 2 rfl) ?_
  refine lv_iconst (v := 0) hx hb dL_tornBlocks_1 (by decide +kernel) ?_
  refine lv_aload_n hx hb dL_tornBlocks_2 rfl (lv_at hl 0 rfl) ?_
  refine lv_iload_n hx hb dL_tornBlocks_3 rfl (lv_at hl 1 rfl) ?_
  obtain ⟨H, eH⟩ : ∃ H : Heap, H = s.heap := ⟨_, rfl⟩
  have hS : va_S (lA (wsD g AD LL EE lc ec) ou) s.heap H [] := by rw [eH]; exact va_S.rf
  rw [← eH] at hP hO
  rw [← eH]
  refine p_V (As := [.int (nI q)]) (rest := [.int (0), .ref (ou)]) S (c_X2_tornBlocks l g AD LL EE LN lc ec hlc hec hLL hEE q hq) (cwV 1 hts gL_tornBlocks_X2_tornBlocks rfl rfl rfl (by decide +kernel) ⟨Nat.le_of_ble_eq_true rfl, Nat.le_of_ble_eq_true rfl⟩) hK (va_recv hK.1 hP (ci := 2) (q0 := 0) rfl dk_me) hP rfl hl.1 rfl (Nat.le_of_ble_eq_true rfl) dL_tornBlocks_4 ⟨Nat.le_of_ble_eq_true rfl, Nat.le_of_ble_eq_true rfl⟩ ?_
  refine lv_i2l (v := (acF (toD LL EE LN q) 0 8).toInt64) hx hb dL_tornBlocks_7 rfl ?_
  refine st_J (o := ou) (cA := gJ g) (v := v) (x := (acF (toD LL EE LN q) 0 8).toInt64) (A := lA (wsD g AD LL EE lc ec) ou) hx hb hK.1 hO (Or.inr rfl) hS 3 rfl dL_tornBlocks_8 (fun H locs hO hk2 hS => ?_)
  have hP := dk_keep hP hk2 hAo
  refine lv_goto (tgt := 15) hx hb dL_tornBlocks_9 (by decide) ?_
  refine lv_iconst (v := 0) hx hb dL_tornBlocks_15 (by decide +kernel) ?_
  exact hret _ _ _ _ hP hO hS dL_tornBlocks_16

set_option maxHeartbeats 4000000 in
set_option maxRecDepth 100000 in
/-- the law's own tornBlocks_x -/
theorem c_L_tornBlocks_x (l : Launch) (hlt : l.stackTraces = false) (g : gT) (AD : Nat → Nat) (LL : Nat → ltT) (EE : Nat → evT) (LN : Nat → Nat) (lc ec : Nat) (hlc : lc ≤ 12) (hec : ec ≤ 24) (hLL : ∀ i, i < 12 → (LL i).2.2 ≤ 40) (hEE : ∀ q, q < ec → (EE q).1 = nI (LN q) ∧ LN q < lc ∧ (EE q).2.2.1 ≤ 40 ∧ (EE q).2.2.2.1 ≤ 8) (x : Int32) (hxb : inB x ec = false) (ou : Nat) (v : Int64) : lM g l yL_tornBlocks wsL_tornBlocks { frames := 8, cells := 1, slots := 6, locals := 125 } [.ref (AD 0), .int (x), .ref (ou)] (wsD g AD LL EE lc ec) ou v 1 (wsD g AD LL EE lc ec) (v) := by
  refine lr_of (cc := cL_tornBlocks) (maxL := 4) (by decide) rfl (Nat.le_of_ble_eq_true rfl) ?_
  intro p e s m args below meth c ls Q hx hb hml hts hown hK hZ hP hO hD hNo htab hl hret
  have hl : lv_has ls 4 [(0, .ref (AD 0)), (1, .int (x)), (2, .ref (ou))] := hl
  have S : CallFix p m c cL_tornBlocks 4 s args wsL_tornBlocks RL := ⟨hx, hb, hml, hown, hts⟩
  have hAo : ∀ k, k < 87 → ¬ AD k = ou := dk_no hNo
  refine lv_aload_n hx hb dL_tornBlocks_0 rfl (lv_at hl 2 rfl) ?_
  refine lv_iconst (v := 0) hx hb dL_tornBlocks_1 (by decide +kernel) ?_
  refine lv_aload_n hx hb dL_tornBlocks_2 rfl (lv_at hl 0 rfl) ?_
  refine lv_iload_n hx hb dL_tornBlocks_3 rfl (lv_at hl 1 rfl) ?_
  refine lx_V (E := "java/lang/IndexOutOfBoundsException") (As := [.int (x)]) (rest := [.int (0), .ref (ou)]) S (c_X2_tornBlocks_x l hlt g AD LL EE LN lc ec hlc hec hLL hEE x hxb) (cwV 1 hts gL_tornBlocks_X2_tornBlocks rfl rfl rfl (by decide +kernel) ⟨Nat.le_of_ble_eq_true rfl, Nat.le_of_ble_eq_true rfl⟩) hK hZ (va_recv hK.1 hP (ci := 2) (q0 := 0) rfl dk_me) hP rfl hl.1 rfl (Nat.le_of_ble_eq_true rfl) dL_tornBlocks_4 ⟨Nat.le_of_ble_eq_true rfl, Nat.le_of_ble_eq_true rfl⟩ [] ⟨0, 9, 12, 19⟩ [] htab (fun _ h9 => absurd h9 List.not_mem_nil) (by decide) (by decide) (hts (.classLink RL 19 "java/lang/IndexOutOfBoundsException") (by decide +kernel)) (List.mem_of_getElem? (i := 0) rfl) (fun H qx hz1 hk1 => ?_)
  have hP := dk_old hP hk1
  have hO := out_old hO hk1
  have hS : va_S (lA (wsD g AD LL EE lc ec) ou) s.heap H [] := ⟨hz1, fun q h1 _ => hk1 q h1, fun q h => nomatch h⟩
  refine lv_astore_n (lv' := [(3, .ref (qx)), (0, .ref (AD 0)), (1, .int (x)), (2, .ref (ou))]) hx hb dL_tornBlocks_12 rfl hl (by decide) rfl (fun ls hl => ?_)
  refine lv_iconst (v := 1) hx hb dL_tornBlocks_13 (by decide +kernel) ?_
  exact hret _ _ _ _ hP hO hS dL_tornBlocks_14

set_option maxHeartbeats 4000000 in
set_option maxRecDepth 100000 in
/-- the law's own firstTorn -/
theorem c_L_firstTorn (l : Launch) (g : gT) (AD : Nat → Nat) (LL : Nat → ltT) (EE : Nat → evT) (LN : Nat → Nat) (lc ec : Nat) (hlc : lc ≤ 12) (hec : ec ≤ 24) (hLL : ∀ i, i < 12 → (LL i).2.2 ≤ 40) (hEE : ∀ q, q < ec → (EE q).1 = nI (LN q) ∧ LN q < lc ∧ (EE q).2.2.1 ≤ 40 ∧ (EE q).2.2.2.1 ≤ 8) (q : Nat) (hq : q < ec) (ou : Nat) (v : Int64) : lM g l yL_firstTorn wsL_firstTorn { frames := 8, cells := 1, slots := 6, locals := 125 } [.ref (AD 0), .int (nI q), .ref (ou)] (wsD g AD LL EE lc ec) ou v 0 (wsD g AD LL EE lc ec) ((fsF (toD LL EE LN q) 8 0).toInt64) := by
  refine lr_of (cc := cL_firstTorn) (maxL := 4) (by decide) rfl (Nat.le_of_ble_eq_true rfl) ?_
  intro p e s m args below meth c ls Q hx hb hml hts hown hK hZ hP hO hD hNo htab hl hret
  have hl : lv_has ls 4 [(0, .ref (AD 0)), (1, .int (nI q)), (2, .ref (ou))] := hl
  have S : CallFix p m c cL_firstTorn 4 s args wsL_firstTorn RL := ⟨hx, hb, hml, hown, hts⟩
  have hAo : ∀ k, k < 87 → ¬ AD k = ou := dk_no hNo
  refine W.widen (Nat.zero_le 1) (Nat.zero_le 6) ?_
  refine lv_aload_n hx hb dL_firstTorn_0 rfl (lv_at hl 2 rfl) ?_
  refine lv_iconst (v := 0) hx hb dL_firstTorn_1 (by decide +kernel) ?_
  refine lv_aload_n hx hb dL_firstTorn_2 rfl (lv_at hl 0 rfl) ?_
  refine lv_iload_n hx hb dL_firstTorn_3 rfl (lv_at hl 1 rfl) ?_
  obtain ⟨H, eH⟩ : ∃ H : Heap, H = s.heap := ⟨_, rfl⟩
  have hS : va_S (lA (wsD g AD LL EE lc ec) ou) s.heap H [] := by rw [eH]; exact va_S.rf
  rw [← eH] at hP hO
  rw [← eH]
  refine p_V (As := [.int (nI q)]) (rest := [.int (0), .ref (ou)]) S (c_X2_firstTorn l g AD LL EE LN lc ec hlc hec hLL hEE q hq) (cwV 1 hts gL_firstTorn_X2_firstTorn rfl rfl rfl (by decide +kernel) ⟨Nat.le_of_ble_eq_true rfl, Nat.le_of_ble_eq_true rfl⟩) hK (va_recv hK.1 hP (ci := 2) (q0 := 0) rfl dk_me) hP rfl hl.1 rfl (Nat.le_of_ble_eq_true rfl) dL_firstTorn_4 ⟨Nat.le_of_ble_eq_true rfl, Nat.le_of_ble_eq_true rfl⟩ ?_
  refine lv_i2l (v := (fsF (toD LL EE LN q) 8 0).toInt64) hx hb dL_firstTorn_7 rfl ?_
  refine st_J (o := ou) (cA := gJ g) (v := v) (x := (fsF (toD LL EE LN q) 8 0).toInt64) (A := lA (wsD g AD LL EE lc ec) ou) hx hb hK.1 hO (Or.inr rfl) hS 3 rfl dL_firstTorn_8 (fun H locs hO hk2 hS => ?_)
  have hP := dk_keep hP hk2 hAo
  refine lv_goto (tgt := 15) hx hb dL_firstTorn_9 (by decide) ?_
  refine lv_iconst (v := 0) hx hb dL_firstTorn_15 (by decide +kernel) ?_
  exact hret _ _ _ _ hP hO hS dL_firstTorn_16

set_option maxHeartbeats 4000000 in
set_option maxRecDepth 100000 in
/-- the law's own firstTorn_x -/
theorem c_L_firstTorn_x (l : Launch) (hlt : l.stackTraces = false) (g : gT) (AD : Nat → Nat) (LL : Nat → ltT) (EE : Nat → evT) (LN : Nat → Nat) (lc ec : Nat) (hlc : lc ≤ 12) (hec : ec ≤ 24) (hLL : ∀ i, i < 12 → (LL i).2.2 ≤ 40) (hEE : ∀ q, q < ec → (EE q).1 = nI (LN q) ∧ LN q < lc ∧ (EE q).2.2.1 ≤ 40 ∧ (EE q).2.2.2.1 ≤ 8) (x : Int32) (hxb : inB x ec = false) (ou : Nat) (v : Int64) : lM g l yL_firstTorn wsL_firstTorn { frames := 8, cells := 1, slots := 6, locals := 125 } [.ref (AD 0), .int (x), .ref (ou)] (wsD g AD LL EE lc ec) ou v 1 (wsD g AD LL EE lc ec) (v) := by
  refine lr_of (cc := cL_firstTorn) (maxL := 4) (by decide) rfl (Nat.le_of_ble_eq_true rfl) ?_
  intro p e s m args below meth c ls Q hx hb hml hts hown hK hZ hP hO hD hNo htab hl hret
  have hl : lv_has ls 4 [(0, .ref (AD 0)), (1, .int (x)), (2, .ref (ou))] := hl
  have S : CallFix p m c cL_firstTorn 4 s args wsL_firstTorn RL := ⟨hx, hb, hml, hown, hts⟩
  have hAo : ∀ k, k < 87 → ¬ AD k = ou := dk_no hNo
  refine lv_aload_n hx hb dL_firstTorn_0 rfl (lv_at hl 2 rfl) ?_
  refine lv_iconst (v := 0) hx hb dL_firstTorn_1 (by decide +kernel) ?_
  refine lv_aload_n hx hb dL_firstTorn_2 rfl (lv_at hl 0 rfl) ?_
  refine lv_iload_n hx hb dL_firstTorn_3 rfl (lv_at hl 1 rfl) ?_
  refine lx_V (E := "java/lang/IndexOutOfBoundsException") (As := [.int (x)]) (rest := [.int (0), .ref (ou)]) S (c_X2_firstTorn_x l hlt g AD LL EE LN lc ec hlc hec hLL hEE x hxb) (cwV 1 hts gL_firstTorn_X2_firstTorn rfl rfl rfl (by decide +kernel) ⟨Nat.le_of_ble_eq_true rfl, Nat.le_of_ble_eq_true rfl⟩) hK hZ (va_recv hK.1 hP (ci := 2) (q0 := 0) rfl dk_me) hP rfl hl.1 rfl (Nat.le_of_ble_eq_true rfl) dL_firstTorn_4 ⟨Nat.le_of_ble_eq_true rfl, Nat.le_of_ble_eq_true rfl⟩ [] ⟨0, 9, 12, 19⟩ [] htab (fun _ h9 => absurd h9 List.not_mem_nil) (by decide) (by decide) (hts (.classLink RL 19 "java/lang/IndexOutOfBoundsException") (by decide +kernel)) (List.mem_of_getElem? (i := 0) rfl) (fun H qx hz1 hk1 => ?_)
  have hP := dk_old hP hk1
  have hO := out_old hO hk1
  have hS : va_S (lA (wsD g AD LL EE lc ec) ou) s.heap H [] := ⟨hz1, fun q h1 _ => hk1 q h1, fun q h => nomatch h⟩
  refine lv_astore_n (lv' := [(3, .ref (qx)), (0, .ref (AD 0)), (1, .int (x)), (2, .ref (ou))]) hx hb dL_firstTorn_12 rfl hl (by decide) rfl (fun ls hl => ?_)
  refine lv_iconst (v := 1) hx hb dL_firstTorn_13 (by decide +kernel) ?_
  exact hret _ _ _ _ hP hO hS dL_firstTorn_14

set_option maxHeartbeats 4000000 in
set_option maxRecDepth 100000 in
/-- the law's own changedPlace -/
theorem c_L_changedPlace (l : Launch) (g : gT) (AD : Nat → Nat) (LL : Nat → ltT) (EE : Nat → evT) (LN : Nat → Nat) (lc ec : Nat) (hlc : lc ≤ 12) (hec : ec ≤ 24) (hLL : ∀ i, i < 12 → (LL i).2.2 ≤ 40) (hEE : ∀ q, q < ec → (EE q).1 = nI (LN q) ∧ LN q < lc ∧ (EE q).2.2.1 ≤ 40 ∧ (EE q).2.2.2.1 ≤ 8) (q : Nat) (hq : q < ec) (ou : Nat) (v : Int64) : lM g l yL_changedPlace wsL_changedPlace { frames := 8, cells := 1, slots := 6, locals := 125 } [.ref (AD 0), .int (nI q), .ref (ou)] (wsD g AD LL EE lc ec) ou v 0 (wsD g AD LL EE lc ec) ((chD LL EE LN q).toInt64) := by
  refine lr_of (cc := cL_changedPlace) (maxL := 4) (by decide) rfl (Nat.le_of_ble_eq_true rfl) ?_
  intro p e s m args below meth c ls Q hx hb hml hts hown hK hZ hP hO hD hNo htab hl hret
  have hl : lv_has ls 4 [(0, .ref (AD 0)), (1, .int (nI q)), (2, .ref (ou))] := hl
  have S : CallFix p m c cL_changedPlace 4 s args wsL_changedPlace RL := ⟨hx, hb, hml, hown, hts⟩
  have hAo : ∀ k, k < 87 → ¬ AD k = ou := dk_no hNo
  refine W.widen (Nat.zero_le 1) (Nat.zero_le 6) ?_
  refine lv_aload_n hx hb dL_changedPlace_0 rfl (lv_at hl 2 rfl) ?_
  refine lv_iconst (v := 0) hx hb dL_changedPlace_1 (by decide +kernel) ?_
  refine lv_aload_n hx hb dL_changedPlace_2 rfl (lv_at hl 0 rfl) ?_
  refine lv_iload_n hx hb dL_changedPlace_3 rfl (lv_at hl 1 rfl) ?_
  obtain ⟨H, eH⟩ : ∃ H : Heap, H = s.heap := ⟨_, rfl⟩
  have hS : va_S (lA (wsD g AD LL EE lc ec) ou) s.heap H [] := by rw [eH]; exact va_S.rf
  rw [← eH] at hP hO
  rw [← eH]
  refine p_V (As := [.int (nI q)]) (rest := [.int (0), .ref (ou)]) S (c_X2_changedPlace l g AD LL EE LN lc ec hlc hec hLL hEE q hq) (cwV 1 hts gL_changedPlace_X2_changedPlace rfl rfl rfl (by decide +kernel) ⟨Nat.le_of_ble_eq_true rfl, Nat.le_of_ble_eq_true rfl⟩) hK (va_recv hK.1 hP (ci := 2) (q0 := 0) rfl dk_me) hP rfl hl.1 rfl (Nat.le_of_ble_eq_true rfl) dL_changedPlace_4 ⟨Nat.le_of_ble_eq_true rfl, Nat.le_of_ble_eq_true rfl⟩ ?_
  refine lv_i2l (v := (chD LL EE LN q).toInt64) hx hb dL_changedPlace_7 rfl ?_
  refine st_J (o := ou) (cA := gJ g) (v := v) (x := (chD LL EE LN q).toInt64) (A := lA (wsD g AD LL EE lc ec) ou) hx hb hK.1 hO (Or.inr rfl) hS 3 rfl dL_changedPlace_8 (fun H locs hO hk2 hS => ?_)
  have hP := dk_keep hP hk2 hAo
  refine lv_goto (tgt := 15) hx hb dL_changedPlace_9 (by decide) ?_
  refine lv_iconst (v := 0) hx hb dL_changedPlace_15 (by decide +kernel) ?_
  exact hret _ _ _ _ hP hO hS dL_changedPlace_16

set_option maxHeartbeats 4000000 in
set_option maxRecDepth 100000 in
/-- the law's own changedPlace_x -/
theorem c_L_changedPlace_x (l : Launch) (hlt : l.stackTraces = false) (g : gT) (AD : Nat → Nat) (LL : Nat → ltT) (EE : Nat → evT) (LN : Nat → Nat) (lc ec : Nat) (hlc : lc ≤ 12) (hec : ec ≤ 24) (hLL : ∀ i, i < 12 → (LL i).2.2 ≤ 40) (hEE : ∀ q, q < ec → (EE q).1 = nI (LN q) ∧ LN q < lc ∧ (EE q).2.2.1 ≤ 40 ∧ (EE q).2.2.2.1 ≤ 8) (x : Int32) (hxb : inB x ec = false) (ou : Nat) (v : Int64) : lM g l yL_changedPlace wsL_changedPlace { frames := 8, cells := 1, slots := 6, locals := 125 } [.ref (AD 0), .int (x), .ref (ou)] (wsD g AD LL EE lc ec) ou v 1 (wsD g AD LL EE lc ec) (v) := by
  refine lr_of (cc := cL_changedPlace) (maxL := 4) (by decide) rfl (Nat.le_of_ble_eq_true rfl) ?_
  intro p e s m args below meth c ls Q hx hb hml hts hown hK hZ hP hO hD hNo htab hl hret
  have hl : lv_has ls 4 [(0, .ref (AD 0)), (1, .int (x)), (2, .ref (ou))] := hl
  have S : CallFix p m c cL_changedPlace 4 s args wsL_changedPlace RL := ⟨hx, hb, hml, hown, hts⟩
  have hAo : ∀ k, k < 87 → ¬ AD k = ou := dk_no hNo
  refine lv_aload_n hx hb dL_changedPlace_0 rfl (lv_at hl 2 rfl) ?_
  refine lv_iconst (v := 0) hx hb dL_changedPlace_1 (by decide +kernel) ?_
  refine lv_aload_n hx hb dL_changedPlace_2 rfl (lv_at hl 0 rfl) ?_
  refine lv_iload_n hx hb dL_changedPlace_3 rfl (lv_at hl 1 rfl) ?_
  refine lx_V (E := "java/lang/IndexOutOfBoundsException") (As := [.int (x)]) (rest := [.int (0), .ref (ou)]) S (c_X2_changedPlace_x l hlt g AD LL EE LN lc ec hlc hec hLL hEE x hxb) (cwV 1 hts gL_changedPlace_X2_changedPlace rfl rfl rfl (by decide +kernel) ⟨Nat.le_of_ble_eq_true rfl, Nat.le_of_ble_eq_true rfl⟩) hK hZ (va_recv hK.1 hP (ci := 2) (q0 := 0) rfl dk_me) hP rfl hl.1 rfl (Nat.le_of_ble_eq_true rfl) dL_changedPlace_4 ⟨Nat.le_of_ble_eq_true rfl, Nat.le_of_ble_eq_true rfl⟩ [] ⟨0, 9, 12, 19⟩ [] htab (fun _ h9 => absurd h9 List.not_mem_nil) (by decide) (by decide) (hts (.classLink RL 19 "java/lang/IndexOutOfBoundsException") (by decide +kernel)) (List.mem_of_getElem? (i := 0) rfl) (fun H qx hz1 hk1 => ?_)
  have hP := dk_old hP hk1
  have hO := out_old hO hk1
  have hS : va_S (lA (wsD g AD LL EE lc ec) ou) s.heap H [] := ⟨hz1, fun q h1 _ => hk1 q h1, fun q h => nomatch h⟩
  refine lv_astore_n (lv' := [(3, .ref (qx)), (0, .ref (AD 0)), (1, .int (x)), (2, .ref (ou))]) hx hb dL_changedPlace_12 rfl hl (by decide) rfl (fun ls hl => ?_)
  refine lv_iconst (v := 1) hx hb dL_changedPlace_13 (by decide +kernel) ?_
  exact hret _ _ _ _ hP hO hS dL_changedPlace_14

set_option maxHeartbeats 4000000 in
set_option maxRecDepth 100000 in
/-- the law's own changedSign -/
theorem c_L_changedSign (l : Launch) (g : gT) (AD : Nat → Nat) (LL : Nat → ltT) (EE : Nat → evT) (LN : Nat → Nat) (lc ec : Nat) (hlc : lc ≤ 12) (hec : ec ≤ 24) (hLL : ∀ i, i < 12 → (LL i).2.2 ≤ 40) (hEE : ∀ q, q < ec → (EE q).1 = nI (LN q) ∧ LN q < lc ∧ (EE q).2.2.1 ≤ 40 ∧ (EE q).2.2.2.1 ≤ 8) (q : Nat) (hq : q < ec) (j : Nat) (hj : j < (LL (LN q)).2.2) (hc : chD LL EE LN q = nI j) (ou : Nat) (v : Int64) : lM g l yL_changedSign wsL_changedSign { frames := 8, cells := 1, slots := 6, locals := 127 } [.ref (AD 0), .int (nI q), .ref (ou)] (wsD g AD LL EE lc ec) ou v 0 (wsD g AD LL EE lc ec) (((LL (LN q)).1 j + ((EE q).2.2.2.2.1 - smF (LL (LN q)).1 (LL (LN q)).2.2)).toInt64) := by
  refine lr_of (cc := cL_changedSign) (maxL := 4) (by decide) rfl (Nat.le_of_ble_eq_true rfl) ?_
  intro p e s m args below meth c ls Q hx hb hml hts hown hK hZ hP hO hD hNo htab hl hret
  have hl : lv_has ls 4 [(0, .ref (AD 0)), (1, .int (nI q)), (2, .ref (ou))] := hl
  have S : CallFix p m c cL_changedSign 4 s args wsL_changedSign RL := ⟨hx, hb, hml, hown, hts⟩
  have hAo : ∀ k, k < 87 → ¬ AD k = ou := dk_no hNo
  refine W.widen (Nat.zero_le 1) (Nat.zero_le 6) ?_
  refine lv_aload_n hx hb dL_changedSign_0 rfl (lv_at hl 2 rfl) ?_
  refine lv_iconst (v := 0) hx hb dL_changedSign_1 (by decide +kernel) ?_
  refine lv_aload_n hx hb dL_changedSign_2 rfl (lv_at hl 0 rfl) ?_
  refine lv_iload_n hx hb dL_changedSign_3 rfl (lv_at hl 1 rfl) ?_
  obtain ⟨H, eH⟩ : ∃ H : Heap, H = s.heap := ⟨_, rfl⟩
  have hS : va_S (lA (wsD g AD LL EE lc ec) ou) s.heap H [] := by rw [eH]; exact va_S.rf
  rw [← eH] at hP hO
  rw [← eH]
  refine p_V (As := [.int (nI q)]) (rest := [.int (0), .ref (ou)]) S (c_X2_changedSign l g AD LL EE LN lc ec hlc hec hLL hEE q hq j hj hc) (cwV 1 hts gL_changedSign_X2_changedSign rfl rfl rfl (by decide +kernel) ⟨Nat.le_of_ble_eq_true rfl, Nat.le_of_ble_eq_true rfl⟩) hK (va_recv hK.1 hP (ci := 2) (q0 := 0) rfl dk_me) hP rfl hl.1 rfl (Nat.le_of_ble_eq_true rfl) dL_changedSign_4 ⟨Nat.le_of_ble_eq_true rfl, Nat.le_of_ble_eq_true rfl⟩ ?_
  refine lv_i2l (v := ((LL (LN q)).1 j + ((EE q).2.2.2.2.1 - smF (LL (LN q)).1 (LL (LN q)).2.2)).toInt64) hx hb dL_changedSign_7 rfl ?_
  refine st_J (o := ou) (cA := gJ g) (v := v) (x := ((LL (LN q)).1 j + ((EE q).2.2.2.2.1 - smF (LL (LN q)).1 (LL (LN q)).2.2)).toInt64) (A := lA (wsD g AD LL EE lc ec) ou) hx hb hK.1 hO (Or.inr rfl) hS 3 rfl dL_changedSign_8 (fun H locs hO hk2 hS => ?_)
  have hP := dk_keep hP hk2 hAo
  refine lv_goto (tgt := 18) hx hb dL_changedSign_9 (by decide) ?_
  refine lv_iconst (v := 0) hx hb dL_changedSign_18 (by decide +kernel) ?_
  exact hret _ _ _ _ hP hO hS dL_changedSign_19

set_option maxHeartbeats 4000000 in
set_option maxRecDepth 100000 in
/-- the law's own changedSign_x -/
theorem c_L_changedSign_x (l : Launch) (hlt : l.stackTraces = false) (g : gT) (AD : Nat → Nat) (LL : Nat → ltT) (EE : Nat → evT) (LN : Nat → Nat) (lc ec : Nat) (hlc : lc ≤ 12) (hec : ec ≤ 24) (hLL : ∀ i, i < 12 → (LL i).2.2 ≤ 40) (hEE : ∀ q, q < ec → (EE q).1 = nI (LN q) ∧ LN q < lc ∧ (EE q).2.2.1 ≤ 40 ∧ (EE q).2.2.2.1 ≤ 8) (x : Int32) (hxb : inB x ec = false) (ou : Nat) (v : Int64) : lM g l yL_changedSign wsL_changedSign { frames := 8, cells := 1, slots := 6, locals := 127 } [.ref (AD 0), .int (x), .ref (ou)] (wsD g AD LL EE lc ec) ou v 1 (wsD g AD LL EE lc ec) (v) := by
  refine lr_of (cc := cL_changedSign) (maxL := 4) (by decide) rfl (Nat.le_of_ble_eq_true rfl) ?_
  intro p e s m args below meth c ls Q hx hb hml hts hown hK hZ hP hO hD hNo htab hl hret
  have hl : lv_has ls 4 [(0, .ref (AD 0)), (1, .int (x)), (2, .ref (ou))] := hl
  have S : CallFix p m c cL_changedSign 4 s args wsL_changedSign RL := ⟨hx, hb, hml, hown, hts⟩
  have hAo : ∀ k, k < 87 → ¬ AD k = ou := dk_no hNo
  refine lv_aload_n hx hb dL_changedSign_0 rfl (lv_at hl 2 rfl) ?_
  refine lv_iconst (v := 0) hx hb dL_changedSign_1 (by decide +kernel) ?_
  refine lv_aload_n hx hb dL_changedSign_2 rfl (lv_at hl 0 rfl) ?_
  refine lv_iload_n hx hb dL_changedSign_3 rfl (lv_at hl 1 rfl) ?_
  refine lx_V (E := "java/lang/IndexOutOfBoundsException") (As := [.int (x)]) (rest := [.int (0), .ref (ou)]) S (c_X2_changedSign_x l hlt g AD LL EE LN lc ec hlc hec hLL hEE x hxb) (cwV 1 hts gL_changedSign_X2_changedSign rfl rfl rfl (by decide +kernel) ⟨Nat.le_of_ble_eq_true rfl, Nat.le_of_ble_eq_true rfl⟩) hK hZ (va_recv hK.1 hP (ci := 2) (q0 := 0) rfl dk_me) hP rfl hl.1 rfl (Nat.le_of_ble_eq_true rfl) dL_changedSign_4 ⟨Nat.le_of_ble_eq_true rfl, Nat.le_of_ble_eq_true rfl⟩ [] ⟨0, 9, 12, 19⟩ [⟨0, 9, 15, 13⟩] htab (fun _ h9 => absurd h9 List.not_mem_nil) (by decide) (by decide) (hts (.classLink RL 19 "java/lang/IndexOutOfBoundsException") (by decide +kernel)) (List.mem_of_getElem? (i := 0) rfl) (fun H qx hz1 hk1 => ?_)
  have hP := dk_old hP hk1
  have hO := out_old hO hk1
  have hS : va_S (lA (wsD g AD LL EE lc ec) ou) s.heap H [] := ⟨hz1, fun q h1 _ => hk1 q h1, fun q h => nomatch h⟩
  refine lv_astore_n (lv' := [(3, .ref (qx)), (0, .ref (AD 0)), (1, .int (x)), (2, .ref (ou))]) hx hb dL_changedSign_12 rfl hl (by decide) rfl (fun ls hl => ?_)
  refine lv_iconst (v := 1) hx hb dL_changedSign_13 (by decide +kernel) ?_
  exact hret _ _ _ _ hP hO hS dL_changedSign_14

set_option maxHeartbeats 4000000 in
set_option maxRecDepth 100000 in
/-- the law's own changedSign_s -/
theorem c_L_changedSign_s (l : Launch) (hlt : l.stackTraces = false) (g : gT) (AD : Nat → Nat) (LL : Nat → ltT) (EE : Nat → evT) (LN : Nat → Nat) (lc ec : Nat) (hlc : lc ≤ 12) (hec : ec ≤ 24) (hLL : ∀ i, i < 12 → (LL i).2.2 ≤ 40) (hEE : ∀ q, q < ec → (EE q).1 = nI (LN q) ∧ LN q < lc ∧ (EE q).2.2.1 ≤ 40 ∧ (EE q).2.2.2.1 ≤ 8) (q : Nat) (hq : q < ec) (hc : chD LL EE LN q = -1) (ou : Nat) (v : Int64) : lM g l yL_changedSign wsL_changedSign { frames := 8, cells := 1, slots := 6, locals := 127 } [.ref (AD 0), .int (nI q), .ref (ou)] (wsD g AD LL EE lc ec) ou v 2 (wsD g AD LL EE lc ec) (v) := by
  refine lr_of (cc := cL_changedSign) (maxL := 4) (by decide) rfl (Nat.le_of_ble_eq_true rfl) ?_
  intro p e s m args below meth c ls Q hx hb hml hts hown hK hZ hP hO hD hNo htab hl hret
  have hl : lv_has ls 4 [(0, .ref (AD 0)), (1, .int (nI q)), (2, .ref (ou))] := hl
  have S : CallFix p m c cL_changedSign 4 s args wsL_changedSign RL := ⟨hx, hb, hml, hown, hts⟩
  have hAo : ∀ k, k < 87 → ¬ AD k = ou := dk_no hNo
  refine lv_aload_n hx hb dL_changedSign_0 rfl (lv_at hl 2 rfl) ?_
  refine lv_iconst (v := 0) hx hb dL_changedSign_1 (by decide +kernel) ?_
  refine lv_aload_n hx hb dL_changedSign_2 rfl (lv_at hl 0 rfl) ?_
  refine lv_iload_n hx hb dL_changedSign_3 rfl (lv_at hl 1 rfl) ?_
  refine lx_V (E := "java/lang/IllegalStateException") (As := [.int (nI q)]) (rest := [.int (0), .ref (ou)]) S (c_X2_changedSign_s l hlt g AD LL EE LN lc ec hlc hec hLL hEE q hq hc) (cwV 1 hts gL_changedSign_X2_changedSign rfl rfl rfl (by decide +kernel) ⟨Nat.le_of_ble_eq_true rfl, Nat.le_of_ble_eq_true rfl⟩) hK hZ (va_recv hK.1 hP (ci := 2) (q0 := 0) rfl dk_me) hP rfl hl.1 rfl (Nat.le_of_ble_eq_true rfl) dL_changedSign_4 ⟨Nat.le_of_ble_eq_true rfl, Nat.le_of_ble_eq_true rfl⟩ [⟨0, 9, 12, 19⟩] ⟨0, 9, 15, 13⟩ [] htab (List.forall_mem_cons.mpr ⟨Or.inr ⟨by decide, "java/lang/IndexOutOfBoundsException", hts (.classLink RL 19 "java/lang/IndexOutOfBoundsException") (by decide +kernel), hK.2.2.2.2.2.2 ("java/lang/IllegalStateException", "java/lang/IndexOutOfBoundsException") (List.mem_of_getElem? (i := 1) rfl)⟩, fun _ h9 => absurd h9 List.not_mem_nil⟩) (by decide) (by decide) (hts (.classLink RL 13 "java/lang/IllegalStateException") (by decide +kernel)) (List.mem_of_getElem? (i := 2) rfl) (fun H qx hz1 hk1 => ?_)
  have hP := dk_old hP hk1
  have hO := out_old hO hk1
  have hS : va_S (lA (wsD g AD LL EE lc ec) ou) s.heap H [] := ⟨hz1, fun q h1 _ => hk1 q h1, fun q h => nomatch h⟩
  refine lv_astore_n (lv' := [(3, .ref (qx)), (0, .ref (AD 0)), (1, .int (nI q)), (2, .ref (ou))]) hx hb dL_changedSign_15 rfl hl (by decide) rfl (fun ls hl => ?_)
  refine lv_iconst (v := 2) hx hb dL_changedSign_16 (by decide +kernel) ?_
  exact hret _ _ _ _ hP hO hS dL_changedSign_17

set_option maxHeartbeats 4000000 in
set_option maxRecDepth 100000 in
/-- the law's own wouldSeal -/
theorem c_L_wouldSeal (l : Launch) (g : gT) (AD : Nat → Nat) (LL : Nat → ltT) (EE : Nat → evT) (LN : Nat → Nat) (lc ec : Nat) (hlc : lc ≤ 12) (hec : ec ≤ 24) (hLL : ∀ i, i < 12 → (LL i).2.2 ≤ 40) (hEE : ∀ q, q < ec → (EE q).1 = nI (LN q) ∧ LN q < lc ∧ (EE q).2.2.1 ≤ 40 ∧ (EE q).2.2.2.1 ≤ 8) (k : Nat) (hk : k < lc) (hn1 : 0 < (LL k).2.2) (ou : Nat) (v : Int64) : lM g l yL_wouldSeal wsL_wouldSeal { frames := 8, cells := 1, slots := 6, locals := 125 } [.ref (AD 0), .int (nI k), .ref (ou)] (wsD g AD LL EE lc ec) ou v 0 (wsD g AD LL EE lc ec) ((slF (lsD EE ec) (dgF ((LL k).1) ((LL k).2.2))).toInt64) := by
  refine lr_of (cc := cL_wouldSeal) (maxL := 4) (by decide) rfl (Nat.le_of_ble_eq_true rfl) ?_
  intro p e s m args below meth c ls Q hx hb hml hts hown hK hZ hP hO hD hNo htab hl hret
  have hl : lv_has ls 4 [(0, .ref (AD 0)), (1, .int (nI k)), (2, .ref (ou))] := hl
  have S : CallFix p m c cL_wouldSeal 4 s args wsL_wouldSeal RL := ⟨hx, hb, hml, hown, hts⟩
  have hAo : ∀ k, k < 87 → ¬ AD k = ou := dk_no hNo
  refine W.widen (Nat.zero_le 1) (Nat.zero_le 6) ?_
  refine lv_aload_n hx hb dL_wouldSeal_0 rfl (lv_at hl 2 rfl) ?_
  refine lv_iconst (v := 0) hx hb dL_wouldSeal_1 (by decide +kernel) ?_
  refine lv_aload_n hx hb dL_wouldSeal_2 rfl (lv_at hl 0 rfl) ?_
  refine lv_iload_n hx hb dL_wouldSeal_3 rfl (lv_at hl 1 rfl) ?_
  obtain ⟨H, eH⟩ : ∃ H : Heap, H = s.heap := ⟨_, rfl⟩
  have hS : va_S (lA (wsD g AD LL EE lc ec) ou) s.heap H [] := by rw [eH]; exact va_S.rf
  rw [← eH] at hP hO
  rw [← eH]
  refine p_V (As := [.int (nI k)]) (rest := [.int (0), .ref (ou)]) S (c_X2_wouldSeal l g AD LL EE LN lc ec hlc hec hLL hEE k hk hn1) (cwV 1 hts gL_wouldSeal_X2_wouldSeal rfl rfl rfl (by decide +kernel) ⟨Nat.le_of_ble_eq_true rfl, Nat.le_of_ble_eq_true rfl⟩) hK (va_recv hK.1 hP (ci := 2) (q0 := 0) rfl dk_me) hP rfl hl.1 rfl (Nat.le_of_ble_eq_true rfl) dL_wouldSeal_4 ⟨Nat.le_of_ble_eq_true rfl, Nat.le_of_ble_eq_true rfl⟩ ?_
  refine lv_i2l (v := (slF (lsD EE ec) (dgF ((LL k).1) ((LL k).2.2))).toInt64) hx hb dL_wouldSeal_7 rfl ?_
  refine st_J (o := ou) (cA := gJ g) (v := v) (x := (slF (lsD EE ec) (dgF ((LL k).1) ((LL k).2.2))).toInt64) (A := lA (wsD g AD LL EE lc ec) ou) hx hb hK.1 hO (Or.inr rfl) hS 3 rfl dL_wouldSeal_8 (fun H locs hO hk2 hS => ?_)
  have hP := dk_keep hP hk2 hAo
  refine lv_goto (tgt := 18) hx hb dL_wouldSeal_9 (by decide) ?_
  refine lv_iconst (v := 0) hx hb dL_wouldSeal_18 (by decide +kernel) ?_
  exact hret _ _ _ _ hP hO hS dL_wouldSeal_19

set_option maxHeartbeats 4000000 in
set_option maxRecDepth 100000 in
/-- the law's own wouldSeal_x -/
theorem c_L_wouldSeal_x (l : Launch) (hlt : l.stackTraces = false) (g : gT) (AD : Nat → Nat) (LL : Nat → ltT) (EE : Nat → evT) (LN : Nat → Nat) (lc ec : Nat) (hlc : lc ≤ 12) (hec : ec ≤ 24) (hLL : ∀ i, i < 12 → (LL i).2.2 ≤ 40) (hEE : ∀ q, q < ec → (EE q).1 = nI (LN q) ∧ LN q < lc ∧ (EE q).2.2.1 ≤ 40 ∧ (EE q).2.2.2.1 ≤ 8) (x : Int32) (hxb : inB x lc = false) (ou : Nat) (v : Int64) : lM g l yL_wouldSeal wsL_wouldSeal { frames := 8, cells := 1, slots := 6, locals := 125 } [.ref (AD 0), .int (x), .ref (ou)] (wsD g AD LL EE lc ec) ou v 1 (wsD g AD LL EE lc ec) (v) := by
  refine lr_of (cc := cL_wouldSeal) (maxL := 4) (by decide) rfl (Nat.le_of_ble_eq_true rfl) ?_
  intro p e s m args below meth c ls Q hx hb hml hts hown hK hZ hP hO hD hNo htab hl hret
  have hl : lv_has ls 4 [(0, .ref (AD 0)), (1, .int (x)), (2, .ref (ou))] := hl
  have S : CallFix p m c cL_wouldSeal 4 s args wsL_wouldSeal RL := ⟨hx, hb, hml, hown, hts⟩
  have hAo : ∀ k, k < 87 → ¬ AD k = ou := dk_no hNo
  refine lv_aload_n hx hb dL_wouldSeal_0 rfl (lv_at hl 2 rfl) ?_
  refine lv_iconst (v := 0) hx hb dL_wouldSeal_1 (by decide +kernel) ?_
  refine lv_aload_n hx hb dL_wouldSeal_2 rfl (lv_at hl 0 rfl) ?_
  refine lv_iload_n hx hb dL_wouldSeal_3 rfl (lv_at hl 1 rfl) ?_
  refine lx_V (E := "java/lang/IndexOutOfBoundsException") (As := [.int (x)]) (rest := [.int (0), .ref (ou)]) S (c_X2_wouldSeal_x l hlt g AD LL EE LN lc ec hlc hec hLL hEE x hxb) (cwV 1 hts gL_wouldSeal_X2_wouldSeal rfl rfl rfl (by decide +kernel) ⟨Nat.le_of_ble_eq_true rfl, Nat.le_of_ble_eq_true rfl⟩) hK hZ (va_recv hK.1 hP (ci := 2) (q0 := 0) rfl dk_me) hP rfl hl.1 rfl (Nat.le_of_ble_eq_true rfl) dL_wouldSeal_4 ⟨Nat.le_of_ble_eq_true rfl, Nat.le_of_ble_eq_true rfl⟩ [] ⟨0, 9, 12, 19⟩ [⟨0, 9, 15, 13⟩] htab (fun _ h9 => absurd h9 List.not_mem_nil) (by decide) (by decide) (hts (.classLink RL 19 "java/lang/IndexOutOfBoundsException") (by decide +kernel)) (List.mem_of_getElem? (i := 0) rfl) (fun H qx hz1 hk1 => ?_)
  have hP := dk_old hP hk1
  have hO := out_old hO hk1
  have hS : va_S (lA (wsD g AD LL EE lc ec) ou) s.heap H [] := ⟨hz1, fun q h1 _ => hk1 q h1, fun q h => nomatch h⟩
  refine lv_astore_n (lv' := [(3, .ref (qx)), (0, .ref (AD 0)), (1, .int (x)), (2, .ref (ou))]) hx hb dL_wouldSeal_12 rfl hl (by decide) rfl (fun ls hl => ?_)
  refine lv_iconst (v := 1) hx hb dL_wouldSeal_13 (by decide +kernel) ?_
  exact hret _ _ _ _ hP hO hS dL_wouldSeal_14

set_option maxHeartbeats 4000000 in
set_option maxRecDepth 100000 in
/-- the law's own wouldSeal_s -/
theorem c_L_wouldSeal_s (l : Launch) (hlt : l.stackTraces = false) (g : gT) (AD : Nat → Nat) (LL : Nat → ltT) (EE : Nat → evT) (LN : Nat → Nat) (lc ec : Nat) (hlc : lc ≤ 12) (hec : ec ≤ 24) (hLL : ∀ i, i < 12 → (LL i).2.2 ≤ 40) (hEE : ∀ q, q < ec → (EE q).1 = nI (LN q) ∧ LN q < lc ∧ (EE q).2.2.1 ≤ 40 ∧ (EE q).2.2.2.1 ≤ 8) (k : Nat) (hk : k < lc) (hn1 : (LL k).2.2 = 0) (ou : Nat) (v : Int64) : lM g l yL_wouldSeal wsL_wouldSeal { frames := 8, cells := 1, slots := 6, locals := 125 } [.ref (AD 0), .int (nI k), .ref (ou)] (wsD g AD LL EE lc ec) ou v 2 (wsD g AD LL EE lc ec) (v) := by
  refine lr_of (cc := cL_wouldSeal) (maxL := 4) (by decide) rfl (Nat.le_of_ble_eq_true rfl) ?_
  intro p e s m args below meth c ls Q hx hb hml hts hown hK hZ hP hO hD hNo htab hl hret
  have hl : lv_has ls 4 [(0, .ref (AD 0)), (1, .int (nI k)), (2, .ref (ou))] := hl
  have S : CallFix p m c cL_wouldSeal 4 s args wsL_wouldSeal RL := ⟨hx, hb, hml, hown, hts⟩
  have hAo : ∀ k, k < 87 → ¬ AD k = ou := dk_no hNo
  refine lv_aload_n hx hb dL_wouldSeal_0 rfl (lv_at hl 2 rfl) ?_
  refine lv_iconst (v := 0) hx hb dL_wouldSeal_1 (by decide +kernel) ?_
  refine lv_aload_n hx hb dL_wouldSeal_2 rfl (lv_at hl 0 rfl) ?_
  refine lv_iload_n hx hb dL_wouldSeal_3 rfl (lv_at hl 1 rfl) ?_
  refine lx_V (E := "java/lang/IllegalStateException") (As := [.int (nI k)]) (rest := [.int (0), .ref (ou)]) S (c_X2_wouldSeal_s l hlt g AD LL EE LN lc ec hlc hec hLL hEE k hk hn1) (cwV 1 hts gL_wouldSeal_X2_wouldSeal rfl rfl rfl (by decide +kernel) ⟨Nat.le_of_ble_eq_true rfl, Nat.le_of_ble_eq_true rfl⟩) hK hZ (va_recv hK.1 hP (ci := 2) (q0 := 0) rfl dk_me) hP rfl hl.1 rfl (Nat.le_of_ble_eq_true rfl) dL_wouldSeal_4 ⟨Nat.le_of_ble_eq_true rfl, Nat.le_of_ble_eq_true rfl⟩ [⟨0, 9, 12, 19⟩] ⟨0, 9, 15, 13⟩ [] htab (List.forall_mem_cons.mpr ⟨Or.inr ⟨by decide, "java/lang/IndexOutOfBoundsException", hts (.classLink RL 19 "java/lang/IndexOutOfBoundsException") (by decide +kernel), hK.2.2.2.2.2.2 ("java/lang/IllegalStateException", "java/lang/IndexOutOfBoundsException") (List.mem_of_getElem? (i := 1) rfl)⟩, fun _ h9 => absurd h9 List.not_mem_nil⟩) (by decide) (by decide) (hts (.classLink RL 13 "java/lang/IllegalStateException") (by decide +kernel)) (List.mem_of_getElem? (i := 2) rfl) (fun H qx hz1 hk1 => ?_)
  have hP := dk_old hP hk1
  have hO := out_old hO hk1
  have hS : va_S (lA (wsD g AD LL EE lc ec) ou) s.heap H [] := ⟨hz1, fun q h1 _ => hk1 q h1, fun q h => nomatch h⟩
  refine lv_astore_n (lv' := [(3, .ref (qx)), (0, .ref (AD 0)), (1, .int (nI k)), (2, .ref (ou))]) hx hb dL_wouldSeal_15 rfl hl (by decide) rfl (fun ls hl => ?_)
  refine lv_iconst (v := 2) hx hb dL_wouldSeal_16 (by decide +kernel) ?_
  exact hret _ _ _ _ hP hO hS dL_wouldSeal_17

set_option maxHeartbeats 4000000 in
set_option maxRecDepth 100000 in
/-- the law's own unnoticed -/
theorem c_L_unnoticed (l : Launch) (g : gT) (AD : Nat → Nat) (LL : Nat → ltT) (EE : Nat → evT) (LN : Nat → Nat) (lc ec : Nat) (hlc : lc ≤ 12) (hec : ec ≤ 24) (hLL : ∀ i, i < 12 → (LL i).2.2 ≤ 40) (hEE : ∀ q, q < ec → (EE q).1 = nI (LN q) ∧ LN q < lc ∧ (EE q).2.2.1 ≤ 40 ∧ (EE q).2.2.2.1 ≤ 8) (k : Nat) (hk : k < lc) (ou : Nat) (v : Int64) : lM g l yL_unnoticed wsL_unnoticed { frames := 8, cells := 1, slots := 6, locals := 124 } [.ref (AD 0), .int (nI k), .ref (ou)] (wsD g AD LL EE lc ec) ou v 0 (wsD g AD LL EE lc ec) ((unF ((LL k).1) ((LL k).2.2)).toInt64) := by
  refine lr_of (cc := cL_unnoticed) (maxL := 4) (by decide) rfl (Nat.le_of_ble_eq_true rfl) ?_
  intro p e s m args below meth c ls Q hx hb hml hts hown hK hZ hP hO hD hNo htab hl hret
  have hl : lv_has ls 4 [(0, .ref (AD 0)), (1, .int (nI k)), (2, .ref (ou))] := hl
  have S : CallFix p m c cL_unnoticed 4 s args wsL_unnoticed RL := ⟨hx, hb, hml, hown, hts⟩
  have hAo : ∀ k, k < 87 → ¬ AD k = ou := dk_no hNo
  refine W.widen (Nat.zero_le 1) (Nat.zero_le 6) ?_
  refine lv_aload_n hx hb dL_unnoticed_0 rfl (lv_at hl 2 rfl) ?_
  refine lv_iconst (v := 0) hx hb dL_unnoticed_1 (by decide +kernel) ?_
  refine lv_aload_n hx hb dL_unnoticed_2 rfl (lv_at hl 0 rfl) ?_
  refine lv_iload_n hx hb dL_unnoticed_3 rfl (lv_at hl 1 rfl) ?_
  obtain ⟨H, eH⟩ : ∃ H : Heap, H = s.heap := ⟨_, rfl⟩
  have hS : va_S (lA (wsD g AD LL EE lc ec) ou) s.heap H [] := by rw [eH]; exact va_S.rf
  rw [← eH] at hP hO
  rw [← eH]
  refine p_V (As := [.int (nI k)]) (rest := [.int (0), .ref (ou)]) S (c_X2_unnoticed l g AD LL EE LN lc ec hlc hec hLL hEE k hk) (cwV 1 hts gL_unnoticed_X2_unnoticed rfl rfl rfl (by decide +kernel) ⟨Nat.le_of_ble_eq_true rfl, Nat.le_of_ble_eq_true rfl⟩) hK (va_recv hK.1 hP (ci := 2) (q0 := 0) rfl dk_me) hP rfl hl.1 rfl (Nat.le_of_ble_eq_true rfl) dL_unnoticed_4 ⟨Nat.le_of_ble_eq_true rfl, Nat.le_of_ble_eq_true rfl⟩ ?_
  refine lv_i2l (v := (unF ((LL k).1) ((LL k).2.2)).toInt64) hx hb dL_unnoticed_7 rfl ?_
  refine st_J (o := ou) (cA := gJ g) (v := v) (x := (unF ((LL k).1) ((LL k).2.2)).toInt64) (A := lA (wsD g AD LL EE lc ec) ou) hx hb hK.1 hO (Or.inr rfl) hS 3 rfl dL_unnoticed_8 (fun H locs hO hk2 hS => ?_)
  have hP := dk_keep hP hk2 hAo
  refine lv_goto (tgt := 15) hx hb dL_unnoticed_9 (by decide) ?_
  refine lv_iconst (v := 0) hx hb dL_unnoticed_15 (by decide +kernel) ?_
  exact hret _ _ _ _ hP hO hS dL_unnoticed_16

set_option maxHeartbeats 4000000 in
set_option maxRecDepth 100000 in
/-- the law's own unnoticed_x -/
theorem c_L_unnoticed_x (l : Launch) (hlt : l.stackTraces = false) (g : gT) (AD : Nat → Nat) (LL : Nat → ltT) (EE : Nat → evT) (LN : Nat → Nat) (lc ec : Nat) (hlc : lc ≤ 12) (hec : ec ≤ 24) (hLL : ∀ i, i < 12 → (LL i).2.2 ≤ 40) (hEE : ∀ q, q < ec → (EE q).1 = nI (LN q) ∧ LN q < lc ∧ (EE q).2.2.1 ≤ 40 ∧ (EE q).2.2.2.1 ≤ 8) (x : Int32) (hxb : inB x lc = false) (ou : Nat) (v : Int64) : lM g l yL_unnoticed wsL_unnoticed { frames := 8, cells := 1, slots := 6, locals := 124 } [.ref (AD 0), .int (x), .ref (ou)] (wsD g AD LL EE lc ec) ou v 1 (wsD g AD LL EE lc ec) (v) := by
  refine lr_of (cc := cL_unnoticed) (maxL := 4) (by decide) rfl (Nat.le_of_ble_eq_true rfl) ?_
  intro p e s m args below meth c ls Q hx hb hml hts hown hK hZ hP hO hD hNo htab hl hret
  have hl : lv_has ls 4 [(0, .ref (AD 0)), (1, .int (x)), (2, .ref (ou))] := hl
  have S : CallFix p m c cL_unnoticed 4 s args wsL_unnoticed RL := ⟨hx, hb, hml, hown, hts⟩
  have hAo : ∀ k, k < 87 → ¬ AD k = ou := dk_no hNo
  refine lv_aload_n hx hb dL_unnoticed_0 rfl (lv_at hl 2 rfl) ?_
  refine lv_iconst (v := 0) hx hb dL_unnoticed_1 (by decide +kernel) ?_
  refine lv_aload_n hx hb dL_unnoticed_2 rfl (lv_at hl 0 rfl) ?_
  refine lv_iload_n hx hb dL_unnoticed_3 rfl (lv_at hl 1 rfl) ?_
  refine lx_V (E := "java/lang/IndexOutOfBoundsException") (As := [.int (x)]) (rest := [.int (0), .ref (ou)]) S (c_X2_unnoticed_x l hlt g AD LL EE LN lc ec hlc hec hLL hEE x hxb) (cwV 1 hts gL_unnoticed_X2_unnoticed rfl rfl rfl (by decide +kernel) ⟨Nat.le_of_ble_eq_true rfl, Nat.le_of_ble_eq_true rfl⟩) hK hZ (va_recv hK.1 hP (ci := 2) (q0 := 0) rfl dk_me) hP rfl hl.1 rfl (Nat.le_of_ble_eq_true rfl) dL_unnoticed_4 ⟨Nat.le_of_ble_eq_true rfl, Nat.le_of_ble_eq_true rfl⟩ [] ⟨0, 9, 12, 19⟩ [] htab (fun _ h9 => absurd h9 List.not_mem_nil) (by decide) (by decide) (hts (.classLink RL 19 "java/lang/IndexOutOfBoundsException") (by decide +kernel)) (List.mem_of_getElem? (i := 0) rfl) (fun H qx hz1 hk1 => ?_)
  have hP := dk_old hP hk1
  have hO := out_old hO hk1
  have hS : va_S (lA (wsD g AD LL EE lc ec) ou) s.heap H [] := ⟨hz1, fun q h1 _ => hk1 q h1, fun q h => nomatch h⟩
  refine lv_astore_n (lv' := [(3, .ref (qx)), (0, .ref (AD 0)), (1, .int (x)), (2, .ref (ou))]) hx hb dL_unnoticed_12 rfl hl (by decide) rfl (fun ls hl => ?_)
  refine lv_iconst (v := 1) hx hb dL_unnoticed_13 (by decide +kernel) ?_
  exact hret _ _ _ _ hP hO hS dL_unnoticed_14

set_option maxHeartbeats 4000000 in
set_option maxRecDepth 100000 in
/-- the law's own worstTear -/
theorem c_L_worstTear (l : Launch) (g : gT) (AD : Nat → Nat) (LL : Nat → ltT) (EE : Nat → evT) (LN : Nat → Nat) (lc ec : Nat) (hlc : lc ≤ 12) (hec : ec ≤ 24) (hLL : ∀ i, i < 12 → (LL i).2.2 ≤ 40) (hEE : ∀ q, q < ec → (EE q).1 = nI (LN q) ∧ LN q < lc ∧ (EE q).2.2.1 ≤ 40 ∧ (EE q).2.2.2.1 ≤ 8) (k : Nat) (hk : k < lc) (ou : Nat) (v : Int64) : lM g l yL_worstTear wsL_worstTear { frames := 8, cells := 1, slots := 6, locals := 124 } [.ref (AD 0), .int (nI k), .ref (ou)] (wsD g AD LL EE lc ec) ou v 0 (wsD g AD LL EE lc ec) (((wkS ((LL k).1) ((LL k).2.2) (dgF ((LL k).1) ((LL k).2.2)) ((LL k).2.2)).1).toInt64) := by
  refine lr_of (cc := cL_worstTear) (maxL := 4) (by decide) rfl (Nat.le_of_ble_eq_true rfl) ?_
  intro p e s m args below meth c ls Q hx hb hml hts hown hK hZ hP hO hD hNo htab hl hret
  have hl : lv_has ls 4 [(0, .ref (AD 0)), (1, .int (nI k)), (2, .ref (ou))] := hl
  have S : CallFix p m c cL_worstTear 4 s args wsL_worstTear RL := ⟨hx, hb, hml, hown, hts⟩
  have hAo : ∀ k, k < 87 → ¬ AD k = ou := dk_no hNo
  refine W.widen (Nat.zero_le 1) (Nat.zero_le 6) ?_
  refine lv_aload_n hx hb dL_worstTear_0 rfl (lv_at hl 2 rfl) ?_
  refine lv_iconst (v := 0) hx hb dL_worstTear_1 (by decide +kernel) ?_
  refine lv_aload_n hx hb dL_worstTear_2 rfl (lv_at hl 0 rfl) ?_
  refine lv_iload_n hx hb dL_worstTear_3 rfl (lv_at hl 1 rfl) ?_
  obtain ⟨H, eH⟩ : ∃ H : Heap, H = s.heap := ⟨_, rfl⟩
  have hS : va_S (lA (wsD g AD LL EE lc ec) ou) s.heap H [] := by rw [eH]; exact va_S.rf
  rw [← eH] at hP hO
  rw [← eH]
  refine p_V (As := [.int (nI k)]) (rest := [.int (0), .ref (ou)]) S (c_X2_worstTear l g AD LL EE LN lc ec hlc hec hLL hEE k hk) (cwV 1 hts gL_worstTear_X2_worstTear rfl rfl rfl (by decide +kernel) ⟨Nat.le_of_ble_eq_true rfl, Nat.le_of_ble_eq_true rfl⟩) hK (va_recv hK.1 hP (ci := 2) (q0 := 0) rfl dk_me) hP rfl hl.1 rfl (Nat.le_of_ble_eq_true rfl) dL_worstTear_4 ⟨Nat.le_of_ble_eq_true rfl, Nat.le_of_ble_eq_true rfl⟩ ?_
  refine lv_i2l (v := ((wkS ((LL k).1) ((LL k).2.2) (dgF ((LL k).1) ((LL k).2.2)) ((LL k).2.2)).1).toInt64) hx hb dL_worstTear_7 rfl ?_
  refine st_J (o := ou) (cA := gJ g) (v := v) (x := ((wkS ((LL k).1) ((LL k).2.2) (dgF ((LL k).1) ((LL k).2.2)) ((LL k).2.2)).1).toInt64) (A := lA (wsD g AD LL EE lc ec) ou) hx hb hK.1 hO (Or.inr rfl) hS 3 rfl dL_worstTear_8 (fun H locs hO hk2 hS => ?_)
  have hP := dk_keep hP hk2 hAo
  refine lv_goto (tgt := 15) hx hb dL_worstTear_9 (by decide) ?_
  refine lv_iconst (v := 0) hx hb dL_worstTear_15 (by decide +kernel) ?_
  exact hret _ _ _ _ hP hO hS dL_worstTear_16

set_option maxHeartbeats 4000000 in
set_option maxRecDepth 100000 in
/-- the law's own worstTear_x -/
theorem c_L_worstTear_x (l : Launch) (hlt : l.stackTraces = false) (g : gT) (AD : Nat → Nat) (LL : Nat → ltT) (EE : Nat → evT) (LN : Nat → Nat) (lc ec : Nat) (hlc : lc ≤ 12) (hec : ec ≤ 24) (hLL : ∀ i, i < 12 → (LL i).2.2 ≤ 40) (hEE : ∀ q, q < ec → (EE q).1 = nI (LN q) ∧ LN q < lc ∧ (EE q).2.2.1 ≤ 40 ∧ (EE q).2.2.2.1 ≤ 8) (x : Int32) (hxb : inB x lc = false) (ou : Nat) (v : Int64) : lM g l yL_worstTear wsL_worstTear { frames := 8, cells := 1, slots := 6, locals := 124 } [.ref (AD 0), .int (x), .ref (ou)] (wsD g AD LL EE lc ec) ou v 1 (wsD g AD LL EE lc ec) (v) := by
  refine lr_of (cc := cL_worstTear) (maxL := 4) (by decide) rfl (Nat.le_of_ble_eq_true rfl) ?_
  intro p e s m args below meth c ls Q hx hb hml hts hown hK hZ hP hO hD hNo htab hl hret
  have hl : lv_has ls 4 [(0, .ref (AD 0)), (1, .int (x)), (2, .ref (ou))] := hl
  have S : CallFix p m c cL_worstTear 4 s args wsL_worstTear RL := ⟨hx, hb, hml, hown, hts⟩
  have hAo : ∀ k, k < 87 → ¬ AD k = ou := dk_no hNo
  refine lv_aload_n hx hb dL_worstTear_0 rfl (lv_at hl 2 rfl) ?_
  refine lv_iconst (v := 0) hx hb dL_worstTear_1 (by decide +kernel) ?_
  refine lv_aload_n hx hb dL_worstTear_2 rfl (lv_at hl 0 rfl) ?_
  refine lv_iload_n hx hb dL_worstTear_3 rfl (lv_at hl 1 rfl) ?_
  refine lx_V (E := "java/lang/IndexOutOfBoundsException") (As := [.int (x)]) (rest := [.int (0), .ref (ou)]) S (c_X2_worstTear_x l hlt g AD LL EE LN lc ec hlc hec hLL hEE x hxb) (cwV 1 hts gL_worstTear_X2_worstTear rfl rfl rfl (by decide +kernel) ⟨Nat.le_of_ble_eq_true rfl, Nat.le_of_ble_eq_true rfl⟩) hK hZ (va_recv hK.1 hP (ci := 2) (q0 := 0) rfl dk_me) hP rfl hl.1 rfl (Nat.le_of_ble_eq_true rfl) dL_worstTear_4 ⟨Nat.le_of_ble_eq_true rfl, Nat.le_of_ble_eq_true rfl⟩ [] ⟨0, 9, 12, 19⟩ [] htab (fun _ h9 => absurd h9 List.not_mem_nil) (by decide) (by decide) (hts (.classLink RL 19 "java/lang/IndexOutOfBoundsException") (by decide +kernel)) (List.mem_of_getElem? (i := 0) rfl) (fun H qx hz1 hk1 => ?_)
  have hP := dk_old hP hk1
  have hO := out_old hO hk1
  have hS : va_S (lA (wsD g AD LL EE lc ec) ou) s.heap H [] := ⟨hz1, fun q h1 _ => hk1 q h1, fun q h => nomatch h⟩
  refine lv_astore_n (lv' := [(3, .ref (qx)), (0, .ref (AD 0)), (1, .int (x)), (2, .ref (ou))]) hx hb dL_worstTear_12 rfl hl (by decide) rfl (fun ls hl => ?_)
  refine lv_iconst (v := 1) hx hb dL_worstTear_13 (by decide +kernel) ?_
  exact hret _ _ _ _ hP hO hS dL_worstTear_14
