/-! THE LAW'S DESK BY HAND: methods that make cells -/
theorem CH.step {H0 H H1 : Heap} {a : Nat} (h : CH nil_ H0 H) (h2 : CH (fun q => q = a) H H1) (ha : H0.size ≤ a) : CH nil_ H0 H1 := ⟨Nat.le_trans h.1 h2.1, fun q hq _ => (h2.2 q (Nat.lt_of_lt_of_le hq h.1) (fun z => by omega)).trans (h.2 q hq fun z => z)⟩
def prR (ra : Nat → Nat) (i : Nat) : Nat → Option Nat := fun x => if x < i then some (ra x) else none
theorem prR_0 (ra : Nat → Nat) : prR ra 0 = fun _ => none := by
  funext x
  exact if_neg (Nat.not_lt_zero x)
theorem prR_up (ra : Nat → Nat) (i : Nat) : va_up (prR ra i) i (some (ra i)) = prR ra (i + 1) := by
  funext x
  unfold prR
  by_cases h : x = i
  · subst h; rw [va_up_self, if_pos (Nat.lt_succ_self x)]
  · rw [va_up_ne _ _ h]
    by_cases h2 : x < i
    · rw [if_pos h2, if_pos (by omega)]
    · rw [if_neg h2, if_neg (by omega)]
theorem prR_end (ra : Nat → Nat) (n r : Nat) : ∀ j, j < n + 1 → va_up (prR ra n) n (some r) j = some (fup ra n r j) := by
  intro j hj
  by_cases h : j = n
  · subst h; rw [va_up_self, fup_at]
  · rw [va_up_ne _ _ h, fup_ne _ _ h]; exact if_pos (by omega)
theorem prR_all (ra : Nat → Nat) (n : Nat) : ∀ j, j < n → prR ra n j = some (ra j) := fun j hj => if_pos hj
theorem wt_fl {f : Nat → Int32} {n : Nat} {x : Int32} : ∀ j, j < n + 1 → upd (flF (fun _ => 0) f n) n x j = upd f n x j := by
  intro j hj
  unfold upd
  by_cases h : j = n
  · rw [if_pos h, if_pos h]
  · rw [if_neg h, if_neg h]; exact flF_in (by omega)

set_option maxHeartbeats 4000000 in
set_option maxRecDepth 100000 in
/-- with(row, x) -/
theorem c_X4_with (l : Launch) (g : gT) (sz : Nat) (r : Nat) (f : Nat → Int32) (n : Nat) (x : Int32) (hn : n ≤ 40) : nM g l yX4_with wsX4_with { frames := 0, cells := 1, slots := 41, locals := 0 } [.ref (r), .int (x)] sz (fun H => va_P (gD g) vwCl (rwW g r f n) H) (fun v H => ∃ q, v = some (.ref q) ∧ sz ≤ q ∧ va_P (gD g) vwCl (rwW g q (upd f n x) (n + 1)) H) 1 41 (nil_) := by
  refine nr_ofA (cc := cX4_with) (maxL := 4) (rt := .array .int) (Or.inr ⟨_, rfl⟩) (by decide) rfl (Nat.le_of_ble_eq_true rfl) ?_
  intro p e s m args below meth c ls Q hx hb hml hts hown hK hsz hP hl hret
  subst hsz
  have hl : lv_has ls 4 [(0, .ref (r)), (1, .int (x))] := hl
  have S : CallFix p m c cX4_with 4 s args wsX4_with RX4 := ⟨hx, hb, hml, hown, hts⟩
  have hr0 := hP
  have hC00 : CH nil_ s.heap s.heap := CH.rf
  have hS0 : va_S (fA (nil_) s.heap.size) s.heap s.heap [] := va_S.rf
  obtain ⟨H, eH⟩ : ∃ H : Heap, H = s.heap := ⟨_, rfl⟩
  obtain ⟨locs, eL⟩ : ∃ L : List Loc, L = [] := ⟨_, rfl⟩
  have hC0 : CH nil_ s.heap H := by rw [eH]; exact hC00
  have hS : va_S (fA (nil_) s.heap.size) s.heap H locs := by rw [eH, eL]; exact hS0
  suffices hgo : W p l e { frames := 0, cells := 1, slots := 41, locals := 0 } s m args below meth c H locs 0 0 Q (F0 m 0 ls []) by rw [eH, eL] at hgo; exact hgo
  clear hC00 hS0 eH eL
  have hr := hC0.one hr0 (fun z => z)
  refine lv_aload_n hx hb dX4_with_0 rfl (lv_at hl 0 rfl) ?_
  refine va_alen (v := nI (n)) hx hb hK.1 hr 0 0 rfl (ht := (rfl : (gTy g)[0]? = _)) rfl dX4_with_1 ?_
  refine lv_iconst (v := nI (1)) hx hb dX4_with_2 (by decide +kernel) ?_
  refine lv_iadd hx hb dX4_with_3 ?_
  refine lv_toI (z := nI (n + 1)) (nI_add _ _) ?_
  refine nw_I (n := n + 1) hx hb (hts (.arrayClass .int) (by decide +kernel)) hK hS (by omega) (by show _ ≤ 1; omega) (by show _ ≤ 41; omega) dX4_with_4 (fun X0 H hq hX0 hC hS => ?_)
  have lX0 : s.heap.size ≤ X0 := Nat.le_trans hC0.1 hq
  have hC0 := hC0.trans hC
  have hr := hC0.one hr0 (fun z => z)
  refine lv_astore_n (lv' := [(2, .ref (X0)), (0, .ref (r)), (1, .int (x))]) hx hb dX4_with_6 rfl hl (by decide) rfl (fun ls hl => ?_)
  refine lv_iconst (v := nI (0)) hx hb dX4_with_7 (by decide +kernel) ?_
  refine lv_istore_n (lv' := [(3, .int (nI (0))), (2, .ref (X0)), (0, .ref (r)), (1, .int (x))]) hx hb dX4_with_8 rfl hl (by decide) rfl (fun ls hl => ?_)
  have L9 : ∀ (k1 i : Nat) (H : Heap) (locs : List Loc) (ls : Array Slot), n - i < k1 → i ≤ n → CH nil_ s.heap H → va_P (gD g) vwCl (rwW g X0 (flF (fun _ => 0) f i) (n + 1)) H → va_S (fA (nil_) s.heap.size) s.heap H locs → lv_has ls 4 [(3, .int (nI i)), (2, .ref (X0)), (0, .ref (r)), (1, .int (x))] → W p l e { frames := 0, cells := 1, slots := 41, locals := 0 } s m args below meth c H locs (0 + 1) (0 + (n + 1)) Q (F0 m 9 ls []) := by
    intro k1
    induction k1 with
    | zero => intro i H locs ls hFu; exact absurd hFu (Nat.not_lt_zero _)
    | succ k1 ih1 =>
      intro i H locs ls hFu hLe hC0 hX0 hS hl
      have hr := hC0.one hr0 (fun z => z)
      refine lv_iload_n hx hb dX4_with_9 rfl (lv_at hl 0 rfl) ?_
      refine lv_aload_n hx hb dX4_with_10 rfl (lv_at hl 2 rfl) ?_
      refine va_alen (v := nI (n)) hx hb hK.1 hr 0 0 rfl (ht := (rfl : (gTy g)[0]? = _)) rfl dX4_with_11 ?_
      refine br_ge (a := i) (b := n) (tgt := 27) hx hb (by omega) (by omega) dX4_with_12 (by decide) (fun c12 => ?_) (fun c12 => ?_)
      · obtain rfl : n = i := by omega
        refine lv_aload_n hx hb dX4_with_27 rfl (lv_at hl 1 rfl) ?_
        refine lv_aload_n hx hb dX4_with_28 rfl (lv_at hl 2 rfl) ?_
        refine va_alen (v := nI (n)) hx hb hK.1 hr 0 0 rfl (ht := (rfl : (gTy g)[0]? = _)) rfl dX4_with_29 ?_
        refine lv_iload_n hx hb dX4_with_30 rfl (lv_at hl 3 rfl) ?_
        refine pt_I (k := n) (n := n + 1) (f := flF (fun _ => 0) f n) (x := x) hx hb hK hX0 hS (Or.inr lX0) (by omega) (by omega) dX4_with_31 (fun H locs hX0 hC hS => ?_)
        have hC0 : CH nil_ s.heap H := hC0.step hC lX0
        have hr := hC0.one hr0 (fun z => z)
        refine lv_aload_n hx hb dX4_with_32 rfl (lv_at hl 1 rfl) ?_
        exact W.widen (by show _ ≤ 1; omega) (by show _ ≤ 41; omega) (hret _ _ _ _ _ ⟨X0, rfl, lX0, rw_eq hX0 wt_fl⟩ hS dX4_with_33)
      · refine lv_aload_n hx hb dX4_with_15 rfl (lv_at hl 1 rfl) ?_
        refine lv_iload_n hx hb dX4_with_16 rfl (lv_at hl 0 rfl) ?_
        refine lv_aload_n hx hb dX4_with_17 rfl (lv_at hl 2 rfl) ?_
        refine lv_iload_n hx hb dX4_with_18 rfl (lv_at hl 0 rfl) ?_
        refine ld_I (k := i) (n := n) (f := f) hx hb hK.1 hr 0 rfl (by omega) (by omega) dX4_with_19 ?_
        refine pt_I (k := i) (n := n + 1) (f := flF (fun _ => 0) f i) (x := f (i)) hx hb hK hX0 hS (Or.inr lX0) (by omega) (by omega) dX4_with_20 (fun H locs hX0 hC hS => ?_)
        have hC0 : CH nil_ s.heap H := hC0.step hC lX0
        have hr := hC0.one hr0 (fun z => z)
        refine lv_iinc (v := nI (i + 1)) (lv' := [(3, .int (nI (i + 1))), (2, .ref (X0)), (0, .ref (r)), (1, .int (x))]) hx hb dX4_with_21 hl (k := 0) rfl (nI_1 _) (by decide) rfl (fun ls hl => ?_)
        refine lv_goto (tgt := 9) hx hb dX4_with_24 (by decide) ?_
        exact ih1 (i + 1) H _ _ (by omega) (by omega) hC0 (by rw [flF_up]; exact hX0) hS (lv_sub hl [0, 1, 2, 3] rfl)
  exact L9 (n + 1) (0) H _ _ (by omega) (by omega) hC0 (by rw [flF_0]; exact hX0) hS (lv_sub hl [0, 1, 2, 3] rfl)

set_option maxHeartbeats 4000000 in
set_option maxRecDepth 100000 in
/-- changed(row, k, x) -/
theorem c_X4_changed (l : Launch) (g : gT) (sz : Nat) (r : Nat) (f : Nat → Int32) (n k : Nat) (x : Int32) (hn : n ≤ 40) (hk : k < n) : nM g l yX4_changed wsX4_changed { frames := 1, cells := 1, slots := 40, locals := 14 } [.ref (r), .int (nI k), .int (x)] sz (fun H => va_P (gD g) vwCl (rwW g r f n) H) (fun v H => ∃ q, v = some (.ref q) ∧ sz ≤ q ∧ va_P (gD g) vwCl (rwW g q (upd f k x) n) H) 1 40 (nil_) := by
  refine nr_ofA (cc := cX4_changed) (maxL := 4) (rt := .array .int) (Or.inr ⟨_, rfl⟩) (by decide) rfl (Nat.le_of_ble_eq_true rfl) ?_
  intro p e s m args below meth c ls Q hx hb hml hts hown hK hsz hP hl hret
  subst hsz
  have hl : lv_has ls 4 [(0, .ref (r)), (1, .int (nI k)), (2, .int (x))] := hl
  have S : CallFix p m c cX4_changed 4 s args wsX4_changed RX4 := ⟨hx, hb, hml, hown, hts⟩
  have hr0 := hP
  have hC00 : CH nil_ s.heap s.heap := CH.rf
  have hS0 : va_S (fA (nil_) s.heap.size) s.heap s.heap [] := va_S.rf
  obtain ⟨H, eH⟩ : ∃ H : Heap, H = s.heap := ⟨_, rfl⟩
  obtain ⟨locs, eL⟩ : ∃ L : List Loc, L = [] := ⟨_, rfl⟩
  have hC0 : CH nil_ s.heap H := by rw [eH]; exact hC00
  have hS : va_S (fA (nil_) s.heap.size) s.heap H locs := by rw [eH, eL]; exact hS0
  suffices hgo : W p l e { frames := 1, cells := 1, slots := 40, locals := 14 } s m args below meth c H locs 0 0 Q (F0 m 0 ls []) by rw [eH, eL] at hgo; exact hgo
  clear hC00 hS0 eH eL
  have hr := hC0.one hr0 (fun z => z)
  refine lv_aload_n hx hb dX4_changed_0 rfl (lv_at hl 0 rfl) ?_
  refine nw_C (rest := []) (f := f) (n := n) hx hb (hml.trans hl.1.symm) hown (hts (.methodLink RX4 21 ⟨"[I", "clone", "()Ljava/lang/Object;"⟩) (by decide +kernel)) (hts (.sameMethod "[I" "java/lang/Object" "clone" "()Ljava/lang/Object;") (by decide +kernel)) (hts (.native ⟨"java/lang/Object", "clone", "()Ljava/lang/Object;"⟩) (by decide +kernel)) (hts (.instanceMethod ⟨"java/lang/Object", "clone", "()Ljava/lang/Object;"⟩) (by decide +kernel)) (hts (.selects "[I" ⟨"[I", "clone", "()Ljava/lang/Object;"⟩ ⟨"java/lang/Object", "clone", "()Ljava/lang/Object;"⟩) (by decide +kernel)) hK hS hr (Nat.le_of_ble_eq_true rfl) (Nat.le_of_ble_eq_true rfl) (by show _ ≤ 1; omega) (by show _ ≤ 40; omega) dX4_changed_1 (fun X0 H hq hX0 hC hS => ?_)
  have lX0 : s.heap.size ≤ X0 := Nat.le_trans hC0.1 hq
  have hC0 := hC0.trans hC
  have hr := hC0.one hr0 (fun z => z)
  refine va_castA hx hb hown (hts (.classLink RX4 7 "[I") (by decide +kernel)) hX0 0 rfl (hK.1.2 0 (gI g, .int) rfl).2 dX4_changed_4 ?_
  refine lv_astore_n (lv' := [(3, .ref (X0)), (0, .ref (r)), (1, .int (nI k)), (2, .int (x))]) hx hb dX4_changed_7 rfl hl (by decide) rfl (fun ls hl => ?_)
  refine lv_aload_n hx hb dX4_changed_8 rfl (lv_at hl 0 rfl) ?_
  refine lv_iload_n hx hb dX4_changed_9 rfl (lv_at hl 2 rfl) ?_
  refine lv_iload_n hx hb dX4_changed_10 rfl (lv_at hl 3 rfl) ?_
  refine pt_I (k := k) (n := n) (f := f) (x := x) hx hb hK hX0 hS (Or.inr lX0) (by omega) (by omega) dX4_changed_11 (fun H locs hX0 hC hS => ?_)
  have hC0 : CH nil_ s.heap H := hC0.step hC lX0
  have hr := hC0.one hr0 (fun z => z)
  refine lv_aload_n hx hb dX4_changed_12 rfl (lv_at hl 0 rfl) ?_
  exact W.widen (by show _ ≤ 1; omega) (by show _ ≤ 40; omega) (hret _ _ _ _ _ ⟨X0, rfl, lX0, hX0⟩ hS dX4_changed_13)

set_option maxHeartbeats 4000000 in
set_option maxRecDepth 100000 in
/-- add(row) -/
theorem c_X4_add (l : Launch) (g : gT) (sz : Nat) (B so la ea : Nat) (ra xa ta : Nat → Nat) (LL : Nat → ltT) (EE : Nat → evT) (TT : Nat → (Nat → Int32) × Nat) (lc ec : Nat) (r : Nat) (f w : Nat → Int32) (n : Nat) (hlc : lc < 12) (hec : ec ≤ 24) : nM g l yX4_add wsX4_add { frames := 0, cells := 1, slots := 12, locals := 0 } [.ref (so), .ref (r)] sz (fun H => SW g B so la ea ra xa ta LL EE TT lc ec H ∧ va_P (gD g) vwCl (rwW g r f n) H ∧ B ≤ r ∧ ¬ r = so ∧ B ≤ sz) (fun v H => v = none ∧ ∃ la2 ra2, SW g B so la2 ea ra2 xa ta (fup LL lc ((f, w, n) : ltT)) EE TT (lc + 1) ec H) 1 12 (fun q => q = so) := by
  refine nr_ofV (cc := cX4_add) (maxL := 4) (by decide) rfl (Nat.le_of_ble_eq_true rfl) ?_
  intro p e s m args below meth c ls Q hx hb hml hts hown hK hsz hP hl hret
  subst hsz
  have hl : lv_has ls 4 [(0, .ref (so)), (1, .ref (r))] := hl
  have S : CallFix p m c cX4_add 4 s args wsX4_add RX4 := ⟨hx, hb, hml, hown, hts⟩
  obtain ⟨hW0, hr0, hBr, hrs, hBs⟩ := hP
  have iX4 : ∀ w ∈ u_ws RX4 TX4 2, w ∈ wsX4_add := by decide +kernel
  have f9 := hts (.fieldLink RX4 9 "LetterSealsLaw$Sim" "letters" "[[I") (by decide +kernel)
  have hC00 : CH nil_ s.heap s.heap := CH.rf
  have hS0 : va_S (fA (fun q => q = so) s.heap.size) s.heap s.heap [] := va_S.rf
  obtain ⟨H, eH⟩ : ∃ H : Heap, H = s.heap := ⟨_, rfl⟩
  obtain ⟨locs, eL⟩ : ∃ L : List Loc, L = [] := ⟨_, rfl⟩
  have hC0 : CH nil_ s.heap H := by rw [eH]; exact hC00
  have hS : va_S (fA (fun q => q = so) s.heap.size) s.heap H locs := by rw [eH, eL]; exact hS0
  suffices hgo : W p l e { frames := 0, cells := 1, slots := 12, locals := 0 } s m args below meth c H locs 0 0 Q (F0 m 0 ls []) by rw [eH, eL] at hgo; exact hgo
  clear hC00 hS0 eH eL
  have hW := hW0.keepN hC0
  have hr := hC0.one hr0 (fun z => z)
  refine lv_aload_n hx hb dX4_add_0 rfl (lv_at hl 0 rfl) ?_
  refine va_get (D := gD g) (ci := 4) (v := .ref (la)) (C := RX4) (T := TX4) (N := 2) hx hb hts iX4 hown hK.1 hW.1.1 0 rfl rfl 0 (by decide) f9 (fun _ h9 => h9) rfl dX4_add_1 ?_
  refine va_alen (v := nI (lc)) hx hb hK.1 hW.1.2.1 0 3 rfl (ht := (rfl : (gTy g)[3]? = _)) rfl dX4_add_4 ?_
  refine lv_iconst (v := nI (1)) hx hb dX4_add_5 (by decide +kernel) ?_
  refine lv_iadd hx hb dX4_add_6 ?_
  refine lv_toI (z := nI (lc + 1)) (nI_add _ _) ?_
  refine nw_A (n := lc + 1) hx hb hown (hts (.classLink RX4 7 "[I") (by decide +kernel)) hK hS (by omega) (by show _ ≤ 1; omega) (by show _ ≤ 12; omega) dX4_add_7 (fun X0 H hq hX0 hC hS => ?_)
  have lX0 : s.heap.size ≤ X0 := Nat.le_trans hC0.1 hq
  have hC0 := hC0.trans hC
  have hW := hW0.keepN hC0
  have hr := hC0.one hr0 (fun z => z)
  refine lv_astore_n (lv' := [(2, .ref (X0)), (0, .ref (so)), (1, .ref (r))]) hx hb dX4_add_10 rfl hl (by decide) rfl (fun ls hl => ?_)
  refine lv_iconst (v := nI (0)) hx hb dX4_add_11 (by decide +kernel) ?_
  refine lv_istore_n (lv' := [(3, .int (nI (0))), (2, .ref (X0)), (0, .ref (so)), (1, .ref (r))]) hx hb dX4_add_12 rfl hl (by decide) rfl (fun ls hl => ?_)
  have L13 : ∀ (k1 i : Nat) (H : Heap) (locs : List Loc) (ls : Array Slot), lc - i < k1 → i ≤ lc → CH nil_ s.heap H → va_P (gD g) vwCl (rmW g X0 (prR ra i) (lc + 1)) H → va_S (fA (fun q => q = so) s.heap.size) s.heap H locs → lv_has ls 4 [(3, .int (nI i)), (2, .ref (X0)), (0, .ref (so)), (1, .ref (r))] → W p l e { frames := 0, cells := 1, slots := 12, locals := 0 } s m args below meth c H locs (0 + 1) (0 + (lc + 1)) Q (F0 m 13 ls []) := by
    intro k1
    induction k1 with
    | zero => intro i H locs ls hFu; exact absurd hFu (Nat.not_lt_zero _)
    | succ k1 ih1 =>
      intro i H locs ls hFu hLe hC0 hX0 hS hl
      have hW := hW0.keepN hC0
      have hr := hC0.one hr0 (fun z => z)
      refine lv_iload_n hx hb dX4_add_13 rfl (lv_at hl 0 rfl) ?_
      refine lv_aload_n hx hb dX4_add_14 rfl (lv_at hl 2 rfl) ?_
      refine va_get (D := gD g) (ci := 4) (v := .ref (la)) (C := RX4) (T := TX4) (N := 2) hx hb hts iX4 hown hK.1 hW.1.1 0 rfl rfl 0 (by decide) f9 (fun _ h9 => h9) rfl dX4_add_15 ?_
      refine va_alen (v := nI (lc)) hx hb hK.1 hW.1.2.1 0 3 rfl (ht := (rfl : (gTy g)[3]? = _)) rfl dX4_add_18 ?_
      refine br_ge (a := i) (b := lc) (tgt := 37) hx hb (by omega) (by omega) dX4_add_19 (by decide) (fun c19 => ?_) (fun c19 => ?_)
      · obtain rfl : lc = i := by omega
        refine lv_aload_n hx hb dX4_add_37 rfl (lv_at hl 1 rfl) ?_
        refine lv_aload_n hx hb dX4_add_38 rfl (lv_at hl 2 rfl) ?_
        refine va_get (D := gD g) (ci := 4) (v := .ref (la)) (C := RX4) (T := TX4) (N := 2) hx hb hts iX4 hown hK.1 hW.1.1 0 rfl rfl 0 (by decide) f9 (fun _ h9 => h9) rfl dX4_add_39 ?_
        refine va_alen (v := nI (lc)) hx hb hK.1 hW.1.2.1 0 3 rfl (ht := (rfl : (gTy g)[3]? = _)) rfl dX4_add_42 ?_
        refine lv_aload_n hx hb dX4_add_43 rfl (lv_at hl 3 rfl) ?_
        refine pt_A (k := lc) (n := lc + 1) (f := prR ra lc) hx hb hK hX0 hr hS (Or.inr lX0) (by omega) (by omega) dX4_add_44 (fun H locs hX0 hC hS => ?_)
        have hC0 : CH nil_ s.heap H := hC0.step hC lX0
        have hW := hW0.keepN hC0
        have hr := hC0.one hr0 (fun z => z)
        refine lv_aload_n hx hb dX4_add_45 rfl (lv_at hl 2 rfl) ?_
        refine lv_aload_n hx hb dX4_add_46 rfl (lv_at hl 1 rfl) ?_
        have hC1 := hC0
        refine pt_O (ci := 4) (v := .ref (X0)) (ty := .array (.array .int)) (C := RX4) (T := TX4) (N := 2) (fs := [.ref (la), .ref (ea)]) hx hb hts iX4 tyX4 tyX4_ok nmX4 hown hK hW.1.1 hS (Or.inl rfl) rfl 0 (by decide) f9 (fun _ h9 => h9) rfl (by decide +kernel) rfl rfl (Nat.le_of_ble_eq_true rfl) dX4_add_47 (fun H locs hSo hC hS => ?_)
        have hSo : va_P (gD g) vwCl [(so, .inr (4, [.ref (X0), .ref (ea)]))] H := hSo
        exact W.widen (by show _ ≤ 1; omega) (by show _ ≤ 12; omega) (hret _ _ _ _ ⟨rfl, X0, _, SW.add (w := w) hW0 ((hC1.weaken fun _ _ z => z.elim).trans hC) hBs hr0 hBr hrs hSo lX0 (rq_ext (hC.one hX0 (by have := one_lt hW0.1.1; omega)) (prR_end ra lc r))⟩ hS dX4_add_50)
      · refine lv_aload_n hx hb dX4_add_22 rfl (lv_at hl 1 rfl) ?_
        refine lv_iload_n hx hb dX4_add_23 rfl (lv_at hl 0 rfl) ?_
        refine lv_aload_n hx hb dX4_add_24 rfl (lv_at hl 2 rfl) ?_
        refine va_get (D := gD g) (ci := 4) (v := .ref (la)) (C := RX4) (T := TX4) (N := 2) hx hb hts iX4 hown hK.1 hW.1.1 0 rfl rfl 0 (by decide) f9 (fun _ h9 => h9) rfl dX4_add_25 ?_
        refine lv_iload_n hx hb dX4_add_28 rfl (lv_at hl 0 rfl) ?_
        refine gt_A (k := i) (r := ra i) hx hb hK hW.1.2.1 rfl (by omega) (by omega) dX4_add_29 ?_
        refine pt_A (k := i) (n := lc + 1) (f := prR ra i) hx hb hK hX0 (hW.2.2.1 i (by omega)).1 hS (Or.inr lX0) (by omega) (by omega) dX4_add_30 (fun H locs hX0 hC hS => ?_)
        have hC0 : CH nil_ s.heap H := hC0.step hC lX0
        have hW := hW0.keepN hC0
        have hr := hC0.one hr0 (fun z => z)
        refine lv_iinc (v := nI (i + 1)) (lv' := [(3, .int (nI (i + 1))), (2, .ref (X0)), (0, .ref (so)), (1, .ref (r))]) hx hb dX4_add_31 hl (k := 0) rfl (nI_1 _) (by decide) rfl (fun ls hl => ?_)
        refine lv_goto (tgt := 13) hx hb dX4_add_34 (by decide) ?_
        exact ih1 (i + 1) H _ _ (by omega) (by omega) hC0 (by rw [prR_up] at hX0; exact hX0) hS (lv_sub hl [0, 1, 2, 3] rfl)
  exact L13 (lc + 1) (0) H _ _ (by omega) (by omega) hC0 (by rw [prR_0]; exact hX0) hS (lv_sub hl [0, 1, 2, 3] rfl)

theorem slJ_eq {EE : Nat → evT} {ec : Nat} {d : Int32} (h : ec = 0) : ((53 : Int64) * (1 : Int32).toInt64 + d.toInt64 - (53 * (1 : Int32).toInt64 + d.toInt64) / 65521 * 65521).toInt32 = slJ (lsD EE ec) d := by
  unfold lsD slJ
  rw [if_pos h]
theorem slJ_ne {EE : Nat → evT} {ec : Nat} {d : Int32} (h : ¬ ec = 0) : ((53 : Int64) * ((EE (ec - 1)).2.2.2.2.2.2.1).toInt64 + d.toInt64 - (53 * ((EE (ec - 1)).2.2.2.2.2.2.1).toInt64 + d.toInt64) / 65521 * 65521).toInt32 = slJ (lsD EE ec) d := by
  unfold lsD slJ
  rw [if_neg h]
section PINR
variable {p : Program} {l : Launch} {e : Env} {R : Room} {s : State} {m : MethodId} {args : Array Value} {below : List Frame} {meth : Method} {c : Code} {H : Heap} {locs : List Loc} {cells slots : Nat} {Q : State → Prop}
variable {pc : Nat} {ls : Array Slot} {rest st0 : List Value} {a : Array Value}
theorem p_callRv (hr : va_Run p l e R s m args below meth c H locs cells slots 0 0 (F0 m pc ls st0) rest (pQv a) (fun _ => False)) (kk : W p l e R s m args below meth c H locs cells slots Q (F0 m (pc + 3) ls rest)) : W p l e R s m args below meth c H locs cells slots Q (F0 m pc ls st0) := by
  intro T hT X
  obtain ⟨v9, st₀, t, T', L, h0, X', hL, e1, e2, ⟨hv, hh⟩, st⟩ := hr T hT X
  cases hv
  obtain ⟨t2, a1, b1⟩ := kk T' (by rw [e1, hh, h0]) (Stand.forget X' (fun q h => (hL q h).elim))
  exact ⟨t2, st t2 a1, b1⟩
end PINR
set_option maxHeartbeats 4000000 in
set_option maxRecDepth 100000 in
/-- LetterSealsLaw$Envelope() -/
theorem c_X3_init (l : Launch) (g : gT) (x : Nat) : pMv g l yX3_init wsX3_init { frames := 1, cells := 0, slots := 0, locals := 12 } [.ref x] (fun _ => True) := by
  refine pu_ofV (cc := cX3_init) (maxL := 1) (by decide) rfl (Nat.le_of_ble_eq_true rfl) ?_
  intro p e s m args below meth c H ls Q hx hb hml hts hown hK hP hl hret
  have hl : lv_has ls 1 [(0, .ref x)] := hl
  refine lv_aload_n hx hb dX3_init_0 rfl (lv_at hl 0 rfl) ?_
  refine W.objInit hx hb hown (hts (.methodLink RX3 1 objectInit) (by decide +kernel)) (hts (.instanceMethod objectInit) (by decide +kernel)) (hts _ (List.mem_cons_of_mem _ ((List.mem_of_getElem? (i := 2) rfl)))) rfl (by rw [hml]; exact hl.1) rfl dX3_init_1 (Nat.le_of_ble_eq_true rfl) (Nat.le_of_ble_eq_true rfl) ?_
  refine W.eq (g2 := F0 m 4 ls []) rfl ?_
  exact hret _ _ dX3_init_4

set_option maxHeartbeats 4000000 in
set_option maxRecDepth 100000 in
/-- nextSeal(d) -/
theorem c_X4_nextSeal (l : Launch) (g : gT) (B so la ea : Nat) (ra xa ta : Nat → Nat) (LL : Nat → ltT) (EE : Nat → evT) (TT : Nat → (Nat → Int32) × Nat) (lc ec : Nat) (d : Int32) (hec : ec ≤ 24) : pM g l yX4_nextSeal wsX4_nextSeal { frames := 0, cells := 0, slots := 0, locals := 0 } [.ref (so), .int (d)] (fun H => SW g B so la ea ra xa ta LL EE TT lc ec H) (.int (slJ (lsD EE ec) d)) := by
  refine pu_ofI (cc := cX4_nextSeal) (maxL := 2) (by decide) rfl (Nat.le_of_ble_eq_true rfl) ?_
  intro p e s m args below meth c H ls Q hx hb hml hts hown hK hP hl hret
  have hl : lv_has ls 2 [(0, .ref (so)), (1, .int (d))] := hl
  have S : CallFix p m c cX4_nextSeal 2 s args wsX4_nextSeal RX4 := ⟨hx, hb, hml, hown, hts⟩
  have iX3 : ∀ w ∈ u_ws RX3 TX3 4, w ∈ wsX4_nextSeal := by decide +kernel
  have iX4 : ∀ w ∈ u_ws RX4 TX4 2, w ∈ wsX4_nextSeal := by decide +kernel
  have f17 := hts (.fieldLink RX4 17 "LetterSealsLaw$Sim" "envelopes" "[LLetterSealsLaw$Envelope;") (by decide +kernel)
  have f27 := hts (.fieldLink RX4 27 "LetterSealsLaw$Envelope" "seal" "I") (by decide +kernel)
  have kl25 := hts (.constantLong RX4 25 (53)) (by decide +kernel)
  have kl31 := hts (.constantLong RX4 31 (65521)) (by decide +kernel)
  refine lv_ldc2 (v := 53) hx hb hown kl25 dX4_nextSeal_0 ?_
  refine lv_aload_n hx hb dX4_nextSeal_3 rfl (lv_at hl 0 rfl) ?_
  refine va_get (D := gD g) (ci := 4) (v := .ref (ea)) (C := RX4) (T := TX4) (N := 2) hx hb hts iX4 hown hK.1 hP.1.1 0 rfl rfl 1 (by decide) f17 (fun _ h9 => h9) rfl dX4_nextSeal_4 ?_
  refine va_alen (v := nI (ec)) hx hb hK.1 hP.1.2.2 0 4 rfl (ht := (rfl : (gTy g)[4]? = _)) rfl dX4_nextSeal_7 ?_
  refine br_ne0 (a := ec) (tgt := 15) hx hb (by omega) dX4_nextSeal_8 (by decide) (fun c8 => ?_) (fun c8 => ?_)
  · refine lv_aload_n hx hb dX4_nextSeal_15 rfl (lv_at hl 0 rfl) ?_
    refine va_get (D := gD g) (ci := 4) (v := .ref (ea)) (C := RX4) (T := TX4) (N := 2) hx hb hts iX4 hown hK.1 hP.1.1 0 rfl rfl 1 (by decide) f17 (fun _ h9 => h9) rfl dX4_nextSeal_16 ?_
    refine lv_aload_n hx hb dX4_nextSeal_19 rfl (lv_at hl 0 rfl) ?_
    refine va_get (D := gD g) (ci := 4) (v := .ref (ea)) (C := RX4) (T := TX4) (N := 2) hx hb hts iX4 hown hK.1 hP.1.1 0 rfl rfl 1 (by decide) f17 (fun _ h9 => h9) rfl dX4_nextSeal_20 ?_
    refine va_alen (v := nI (ec)) hx hb hK.1 hP.1.2.2 0 4 rfl (ht := (rfl : (gTy g)[4]? = _)) rfl dX4_nextSeal_23 ?_
    refine lv_iconst (v := nI (1)) hx hb dX4_nextSeal_24 (by decide +kernel) ?_
    refine lv_isub hx hb dX4_nextSeal_25 ?_
    refine lv_toI (z := nI (ec - 1)) (pk_sub (by omega)) ?_
    refine gt_V (k := ec - 1) (r := xa (ec - 1)) hx hb hK hP.1.2.2 rfl (by omega) (by omega) dX4_nextSeal_26 ?_
    refine va_get (D := gD g) (ci := 3) (v := .int ((EE (ec - 1)).2.2.2.2.2.2.1)) (C := RX3) (T := TX3) (N := 4) hx hb hts iX3 hown hK.1 (hP.2.2.2 (ec - 1) (by omega)).1 0 rfl rfl 3 (by decide) f27 (fun _ h9 => h9) rfl dX4_nextSeal_27 ?_
    refine lv_i2l (v := ((EE (ec - 1)).2.2.2.2.2.2.1).toInt64) hx hb dX4_nextSeal_30 rfl ?_
    refine lv_lmul hx hb dX4_nextSeal_31 ?_
    refine lv_iload_n hx hb dX4_nextSeal_32 rfl (lv_at hl 1 rfl) ?_
    refine lv_i2l (v := (d).toInt64) hx hb dX4_nextSeal_33 rfl ?_
    refine lv_ladd hx hb dX4_nextSeal_34 ?_
    refine lv_ldc2 (v := 65521) hx hb hown kl31 dX4_nextSeal_35 ?_
    refine lv_lrem hx hb dX4_nextSeal_38 (by decide +kernel) ?_
    refine lv_l2i (v := ((((53) * (((EE (ec - 1)).2.2.2.2.2.2.1).toInt64)) + ((d).toInt64)) - (((53) * (((EE (ec - 1)).2.2.2.2.2.2.1).toInt64)) + ((d).toInt64)) / (65521) * (65521)).toInt32) hx hb dX4_nextSeal_39 rfl ?_
    refine lv_toI (z := slJ (lsD EE ec) d) (slJ_ne (by omega)) ?_
    exact hret _ _ dX4_nextSeal_40
  · refine lv_iconst (v := 1) hx hb dX4_nextSeal_11 (by decide +kernel) ?_
    refine lv_goto (tgt := 30) hx hb dX4_nextSeal_12 (by decide) ?_
    refine lv_i2l (v := (1 : Int32).toInt64) hx hb dX4_nextSeal_30 rfl ?_
    refine lv_lmul hx hb dX4_nextSeal_31 ?_
    refine lv_iload_n hx hb dX4_nextSeal_32 rfl (lv_at hl 1 rfl) ?_
    refine lv_i2l (v := (d).toInt64) hx hb dX4_nextSeal_33 rfl ?_
    refine lv_ladd hx hb dX4_nextSeal_34 ?_
    refine lv_ldc2 (v := 65521) hx hb hown kl31 dX4_nextSeal_35 ?_
    refine lv_lrem hx hb dX4_nextSeal_38 (by decide +kernel) ?_
    refine lv_l2i (v := ((((53) * ((1 : Int32).toInt64)) + ((d).toInt64)) - (((53) * ((1 : Int32).toInt64)) + ((d).toInt64)) / (65521) * (65521)).toInt32) hx hb dX4_nextSeal_39 rfl ?_
    refine lv_toI (z := slJ (lsD EE ec) d) (slJ_eq (by omega)) ?_
    exact hret _ _ dX4_nextSeal_40

set_option maxHeartbeats 4000000 in
set_option maxRecDepth 100000 in
/-- isWhole(envelope) -/
theorem c_X4_isWhole (l : Launch) (g : gT) (B so la ea : Nat) (ra xa ta : Nat → Nat) (LL : Nat → ltT) (EE : Nat → evT) (TT : Nat → (Nat → Int32) × Nat) (lc ec : Nat) (q k : Nat) (hlc : lc ≤ 12) (hq : q < ec) (hk : k < lc) (hle : (EE q).1 = nI k) (hn : (LL k).2.2 ≤ 40) : pM g l yX4_isWhole wsX4_isWhole { frames := 1, cells := 0, slots := 0, locals := 25 } [.ref (so), .ref (xa q)] (fun H => SW g B so la ea ra xa ta LL EE TT lc ec H) (.int (bI (decide (dgF (LL k).1 (LL k).2.2 = (EE q).2.1)))) := by
  refine pu_ofZ (cc := cX4_isWhole) (maxL := 2) (bI_n _) (by decide) rfl (Nat.le_of_ble_eq_true rfl) ?_
  intro p e s m args below meth c H ls Q hx hb hml hts hown hK hP hl hret
  have hl : lv_has ls 2 [(0, .ref (so)), (1, .ref (xa q))] := hl
  have S : CallFix p m c cX4_isWhole 2 s args wsX4_isWhole RX4 := ⟨hx, hb, hml, hown, hts⟩
  have iX3 : ∀ w ∈ u_ws RX3 TX3 4, w ∈ wsX4_isWhole := by decide +kernel
  have iX4 : ∀ w ∈ u_ws RX4 TX4 2, w ∈ wsX4_isWhole := by decide +kernel
  have f9 := hts (.fieldLink RX4 9 "LetterSealsLaw$Sim" "letters" "[[I") (by decide +kernel)
  have f34 := hts (.fieldLink RX4 34 "LetterSealsLaw$Envelope" "letter" "I") (by decide +kernel)
  have f44 := hts (.fieldLink RX4 44 "LetterSealsLaw$Envelope" "digest" "I") (by decide +kernel)
  refine lv_aload_n hx hb dX4_isWhole_0 rfl (lv_at hl 0 rfl) ?_
  refine va_get (D := gD g) (ci := 4) (v := .ref (la)) (C := RX4) (T := TX4) (N := 2) hx hb hts iX4 hown hK.1 hP.1.1 0 rfl rfl 0 (by decide) f9 (fun _ h9 => h9) rfl dX4_isWhole_1 ?_
  refine lv_aload_n hx hb dX4_isWhole_4 rfl (lv_at hl 1 rfl) ?_
  refine va_get (D := gD g) (ci := 3) (v := .int ((EE q).1)) (C := RX3) (T := TX3) (N := 4) hx hb hts iX3 hown hK.1 (hP.2.2.2 q (by omega)).1 0 rfl rfl 0 (by decide) f34 (fun _ h9 => h9) rfl dX4_isWhole_5 ?_
  refine lv_toI (z := nI (k)) (hle) ?_
  refine gt_A (k := k) (r := ra k) hx hb hK hP.1.2.1 rfl (by omega) (by omega) dX4_isWhole_8 ?_
  refine p_S (As := [.ref (ra k)]) (rest := []) S (c_X4_digest l g (ra k) (LL k).1 (LL k).2.2 (by omega)) (cwS 1 hts gX4_isWhole_X4_digest rfl rfl rfl (by decide +kernel) ⟨Nat.le_of_ble_eq_true rfl, Nat.le_of_ble_eq_true rfl⟩) hK ((hP.2.2.1 k hk).1) rfl hl.1 rfl (Nat.le_of_ble_eq_true rfl) dX4_isWhole_9 ⟨Nat.le_of_ble_eq_true rfl, Nat.le_of_ble_eq_true rfl⟩ ?_
  refine lv_aload_n hx hb dX4_isWhole_12 rfl (lv_at hl 1 rfl) ?_
  refine va_get (D := gD g) (ci := 3) (v := .int ((EE q).2.1)) (C := RX3) (T := TX3) (N := 4) hx hb hts iX3 hown hK.1 (hP.2.2.2 q (by omega)).1 0 rfl rfl 2 (by decide) f44 (fun _ h9 => h9) rfl dX4_isWhole_13 ?_
  refine lv_icmp_ne (tgt := 23) hx hb dX4_isWhole_16 (by decide) (fun c16 => ?_) (fun c16 => ?_)
  · refine lv_iconst (v := bI false) hx hb dX4_isWhole_23 (by decide +kernel) ?_
    refine lv_toI (z := bI (decide (dgF (LL k).1 (LL k).2.2 = (EE q).2.1))) (by first | (rw [decide_eq_true c16]) | (rw [decide_eq_false c16])) ?_
    exact hret _ _ dX4_isWhole_24
  · refine lv_iconst (v := bI true) hx hb dX4_isWhole_19 (by decide +kernel) ?_
    refine lv_goto (tgt := 24) hx hb dX4_isWhole_20 (by decide) ?_
    refine lv_toI (z := bI (decide (dgF (LL k).1 (LL k).2.2 = (EE q).2.1))) (by first | (rw [decide_eq_true c16]) | (rw [decide_eq_false c16])) ?_
    exact hret _ _ dX4_isWhole_24

set_option maxHeartbeats 4000000 in
set_option maxRecDepth 100000 in
/-- seal(k) -/
theorem c_X4_seal (l : Launch) (g : gT) (sz : Nat) (B so la ea : Nat) (ra xa ta : Nat → Nat) (LL : Nat → ltT) (EE : Nat → evT) (TT : Nat → (Nat → Int32) × Nat) (lc ec : Nat) (k : Nat) (ev : evT) (hlc : lc ≤ 12) (hec : ec < 24) (hk : k < lc) (hn : (LL k).2.2 ≤ 40) (he : ev.1 = nI k ∧ ev.2.1 = dgF (LL k).1 (LL k).2.2 ∧ ev.2.2.2.2.2.2.1 = slJ (lsD EE ec) (dgF (LL k).1 (LL k).2.2)) : nM g l yX4_seal wsX4_seal { frames := 2, cells := 2, slots := 28, locals := 32 } [.ref (so), .int (nI k)] sz (fun H => SW g B so la ea ra xa ta LL EE TT lc ec H ∧ B ≤ sz) (fun v H => v = none ∧ ∃ ea2 xa2 ta2, SW g B so la ea2 ra xa2 ta2 LL (fup EE ec ev) (fup TT ec ((LL k).1, (LL k).2.2)) lc (ec + 1) H) 2 28 (fun q => q = so) := by
  refine nr_ofV (cc := cX4_seal) (maxL := 5) (by decide) rfl (Nat.le_of_ble_eq_true rfl) ?_
  intro p e s m args below meth c ls Q hx hb hml hts hown hK hsz hP hl hret
  subst hsz
  have hl : lv_has ls 5 [(0, .ref (so)), (1, .int (nI k))] := hl
  have S : CallFix p m c cX4_seal 5 s args wsX4_seal RX4 := ⟨hx, hb, hml, hown, hts⟩
  obtain ⟨hW0, hBs⟩ := hP
  have iX3 : ∀ w ∈ u_ws RX3 TX3 4, w ∈ wsX4_seal := by decide +kernel
  have iX4 : ∀ w ∈ u_ws RX4 TX4 2, w ∈ wsX4_seal := by decide +kernel
  have f9 := hts (.fieldLink RX4 9 "LetterSealsLaw$Sim" "letters" "[[I") (by decide +kernel)
  have f17 := hts (.fieldLink RX4 17 "LetterSealsLaw$Sim" "envelopes" "[LLetterSealsLaw$Envelope;") (by decide +kernel)
  have f27 := hts (.fieldLink RX4 27 "LetterSealsLaw$Envelope" "seal" "I") (by decide +kernel)
  have f34 := hts (.fieldLink RX4 34 "LetterSealsLaw$Envelope" "letter" "I") (by decide +kernel)
  have f37 := hts (.fieldLink RX4 37 "LetterSealsLaw$Envelope" "then" "[I") (by decide +kernel)
  have f44 := hts (.fieldLink RX4 44 "LetterSealsLaw$Envelope" "digest" "I") (by decide +kernel)
  have hC00 : CH nil_ s.heap s.heap := CH.rf
  have hS0 : va_S (fA (fun q => q = so) s.heap.size) s.heap s.heap [] := va_S.rf
  obtain ⟨H, eH⟩ : ∃ H : Heap, H = s.heap := ⟨_, rfl⟩
  obtain ⟨locs, eL⟩ : ∃ L : List Loc, L = [] := ⟨_, rfl⟩
  have hC0 : CH nil_ s.heap H := by rw [eH]; exact hC00
  have hS : va_S (fA (fun q => q = so) s.heap.size) s.heap H locs := by rw [eH, eL]; exact hS0
  suffices hgo : W p l e { frames := 2, cells := 2, slots := 28, locals := 32 } s m args below meth c H locs 0 0 Q (F0 m 0 ls []) by rw [eH, eL] at hgo; exact hgo
  clear hC00 hS0 eH eL
  have hW := hW0.keepN hC0
  refine nw_O (ci := 3) (fs := [.int (0), .null, .int (0), .int (0)]) (C := RX3) (T := TX3) (N := 4) hx hb hts iX3 tyX3 tyX3_ok hown (hts (.classLink RX4 15 RX3) (by decide +kernel)) (hts (.instantiable RX3 4) (by decide +kernel)) (hts (.initialized RX3) (by decide +kernel)) hK hS rfl (fun x hx9 => match x, hx9 with | 0, _ => rfl | 1, _ => rfl | 2, _ => rfl | 3, _ => rfl) (by show _ ≤ 2; omega) (by show _ ≤ 28; omega) dX4_seal_0 (fun X0 H hq hX0 hC hS => ?_)
  have lX0 : s.heap.size ≤ X0 := Nat.le_trans hC0.1 hq
  have hC0 := hC0.trans hC
  have hW := hW0.keepN hC0
  refine lv_dup hx hb dX4_seal_3 rfl ?_
  refine p_callRv (va_runIN (As := []) (rest := [.ref (X0)]) (g := F0 m 4 ls [.ref (X0), .ref (X0)]) S (c_X3_init l g X0) ⟨va_cnB 0 hts gX4_seal_X3_init_n33 rfl rfl rfl (hK.2.2.2.2.2.2.1 ("LetterSealsLaw$Sim", 33, yX3_init) (List.mem_of_getElem? (i := 1) rfl)) (hts (.initialized RX3) (by decide +kernel)) (by decide +kernel) ⟨Nat.le_of_ble_eq_true rfl, Nat.le_of_ble_eq_true rfl⟩, rfl, hts (.instanceMethod yX3_init) (by decide +kernel)⟩ ⟨pPc_blind, fun U hU hWm => ⟨rfl, hK.warm hWm, trivial⟩⟩ rfl rfl hl.1 rfl (Nat.le_of_ble_eq_true rfl) dX4_seal_4 ⟨by show _ ≤ 2; omega, by show _ ≤ 28; omega⟩) ?_
  refine lv_astore_n (lv' := [(2, .ref (X0)), (0, .ref (so)), (1, .int (nI k))]) hx hb dX4_seal_7 rfl hl (by decide) rfl (fun ls hl => ?_)
  refine lv_aload_n hx hb dX4_seal_8 rfl (lv_at hl 0 rfl) ?_
  refine lv_iload_n hx hb dX4_seal_9 rfl (lv_at hl 2 rfl) ?_
  refine pt_O (ci := 3) (v := .int (nI k)) (ty := .int) (C := RX3) (T := TX3) (N := 4) (fs := [.int (0), .null, .int (0), .int (0)]) hx hb hts iX3 tyX3 tyX3_ok nmX3 hown hK hX0 hS (Or.inr lX0) rfl 0 (by decide) f34 (fun _ h9 => h9) rfl (by decide +kernel) rfl rfl (Nat.le_of_ble_eq_true rfl) dX4_seal_10 (fun H locs hX0 hC hS => ?_)
  have hX0 : va_P (gD g) vwCl [(X0, .inr (3, [.int (nI k), .null, .int (0), .int (0)]))] H := hX0
  have hC0 : CH nil_ s.heap H := hC0.step hC lX0
  have hW := hW0.keepN hC0
  refine lv_aload_n hx hb dX4_seal_13 rfl (lv_at hl 0 rfl) ?_
  refine lv_aload_n hx hb dX4_seal_14 rfl (lv_at hl 1 rfl) ?_
  refine va_get (D := gD g) (ci := 4) (v := .ref (la)) (C := RX4) (T := TX4) (N := 2) hx hb hts iX4 hown hK.1 hW.1.1 0 rfl rfl 0 (by decide) f9 (fun _ h9 => h9) rfl dX4_seal_15 ?_
  refine lv_iload_n hx hb dX4_seal_18 rfl (lv_at hl 2 rfl) ?_
  refine gt_A (k := k) (r := ra k) hx hb hK hW.1.2.1 rfl (by omega) (by omega) dX4_seal_19 ?_
  refine pt_O (ci := 3) (v := .ref (ra k)) (ty := .array .int) (C := RX3) (T := TX3) (N := 4) (fs := [.int (nI k), .null, .int (0), .int (0)]) hx hb hts iX3 tyX3 tyX3_ok nmX3 hown hK hX0 hS (Or.inr lX0) rfl 1 (by decide) f37 (fun _ h9 => h9) rfl (by decide +kernel) rfl rfl (Nat.le_of_ble_eq_true rfl) dX4_seal_20 (fun H locs hX0 hC hS => ?_)
  have hX0 : va_P (gD g) vwCl [(X0, .inr (3, [.int (nI k), .ref (ra k), .int (0), .int (0)]))] H := hX0
  have hC0 : CH nil_ s.heap H := hC0.step hC lX0
  have hW := hW0.keepN hC0
  refine lv_aload_n hx hb dX4_seal_23 rfl (lv_at hl 0 rfl) ?_
  refine lv_aload_n hx hb dX4_seal_24 rfl (lv_at hl 0 rfl) ?_
  refine va_get (D := gD g) (ci := 3) (v := .ref (ra k)) (C := RX3) (T := TX3) (N := 4) hx hb hts iX3 hown hK.1 hX0 0 rfl rfl 1 (by decide) f37 (fun _ h9 => h9) rfl dX4_seal_25 ?_
  refine p_S (As := [.ref (ra k)]) (rest := [.ref (X0)]) S (c_X4_digest l g (ra k) (LL k).1 (LL k).2.2 (by omega)) (cwS 1 hts gX4_seal_X4_digest rfl rfl rfl (by decide +kernel) ⟨Nat.le_of_ble_eq_true rfl, Nat.le_of_ble_eq_true rfl⟩) hK ((hW.2.2.1 k hk).1) rfl hl.1 rfl (Nat.le_of_ble_eq_true rfl) dX4_seal_28 ⟨Nat.le_of_ble_eq_true rfl, Nat.le_of_ble_eq_true rfl⟩ ?_
  refine pt_O (ci := 3) (v := .int (dgF (LL k).1 (LL k).2.2)) (ty := .int) (C := RX3) (T := TX3) (N := 4) (fs := [.int (nI k), .ref (ra k), .int (0), .int (0)]) hx hb hts iX3 tyX3 tyX3_ok nmX3 hown hK hX0 hS (Or.inr lX0) rfl 2 (by decide) f44 (fun _ h9 => h9) rfl (by decide +kernel) rfl rfl (Nat.le_of_ble_eq_true rfl) dX4_seal_31 (fun H locs hX0 hC hS => ?_)
  have hX0 : va_P (gD g) vwCl [(X0, .inr (3, [.int (nI k), .ref (ra k), .int (dgF (LL k).1 (LL k).2.2), .int (0)]))] H := hX0
  have hC0 : CH nil_ s.heap H := hC0.step hC lX0
  have hW := hW0.keepN hC0
  refine lv_aload_n hx hb dX4_seal_34 rfl (lv_at hl 0 rfl) ?_
  refine lv_aload_n hx hb dX4_seal_35 rfl (lv_at hl 1 rfl) ?_
  refine lv_aload_n hx hb dX4_seal_36 rfl (lv_at hl 0 rfl) ?_
  refine va_get (D := gD g) (ci := 3) (v := .int (dgF (LL k).1 (LL k).2.2)) (C := RX3) (T := TX3) (N := 4) hx hb hts iX3 hown hK.1 hX0 0 rfl rfl 2 (by decide) f44 (fun _ h9 => h9) rfl dX4_seal_37 ?_
  refine p_V (As := [.int (dgF (LL k).1 (LL k).2.2)]) (rest := [.ref (X0)]) S (c_X4_nextSeal l g B so la ea ra xa ta LL EE TT lc ec (dgF (LL k).1 (LL k).2.2) (by omega)) (cwV 1 hts gX4_seal_X4_nextSeal rfl rfl rfl (by decide +kernel) ⟨Nat.le_of_ble_eq_true rfl, Nat.le_of_ble_eq_true rfl⟩) hK (va_recv hK.1 hW.1.1 (ci := 4) (q0 := 0) rfl rfl) (hW) rfl hl.1 rfl (Nat.le_of_ble_eq_true rfl) dX4_seal_40 ⟨Nat.le_of_ble_eq_true rfl, Nat.le_of_ble_eq_true rfl⟩ ?_
  refine pt_O (ci := 3) (v := .int (slJ (lsD EE ec) (dgF (LL k).1 (LL k).2.2))) (ty := .int) (C := RX3) (T := TX3) (N := 4) (fs := [.int (nI k), .ref (ra k), .int (dgF (LL k).1 (LL k).2.2), .int (0)]) hx hb hts iX3 tyX3 tyX3_ok nmX3 hown hK hX0 hS (Or.inr lX0) rfl 3 (by decide) f27 (fun _ h9 => h9) rfl (by decide +kernel) rfl rfl (Nat.le_of_ble_eq_true rfl) dX4_seal_43 (fun H locs hX0 hC hS => ?_)
  have hX0 : va_P (gD g) vwCl [(X0, .inr (3, [.int (nI k), .ref (ra k), .int (dgF (LL k).1 (LL k).2.2), .int (slJ (lsD EE ec) (dgF (LL k).1 (LL k).2.2))]))] H := hX0
  have hC0 : CH nil_ s.heap H := hC0.step hC lX0
  have hW := hW0.keepN hC0
  refine lv_aload_n hx hb dX4_seal_46 rfl (lv_at hl 1 rfl) ?_
  refine va_get (D := gD g) (ci := 4) (v := .ref (ea)) (C := RX4) (T := TX4) (N := 2) hx hb hts iX4 hown hK.1 hW.1.1 0 rfl rfl 1 (by decide) f17 (fun _ h9 => h9) rfl dX4_seal_47 ?_
  refine va_alen (v := nI (ec)) hx hb hK.1 hW.1.2.2 0 4 rfl (ht := (rfl : (gTy g)[4]? = _)) rfl dX4_seal_50 ?_
  refine lv_iconst (v := nI (1)) hx hb dX4_seal_51 (by decide +kernel) ?_
  refine lv_iadd hx hb dX4_seal_52 ?_
  refine lv_toI (z := nI (ec + 1)) (nI_add _ _) ?_
  refine nw_V (n := ec + 1) hx hb hown (hts (.classLink RX4 15 RX3) (by decide +kernel)) hK hS (by omega) (by show _ ≤ 2; omega) (by show _ ≤ 28; omega) dX4_seal_53 (fun X1 H hq hX1 hC hS => ?_)
  have lX1 : s.heap.size ≤ X1 := Nat.le_trans hC0.1 hq
  have nX0_X1 : ¬ X0 = X1 := by have := one_lt hX0; omega
  have hX0 := hC.one hX0 (fun z => z)
  have hC0 := hC0.trans hC
  have hW := hW0.keepN hC0
  refine lv_astore_n (lv' := [(3, .ref (X1)), (2, .ref (X0)), (0, .ref (so)), (1, .int (nI k))]) hx hb dX4_seal_56 rfl hl (by decide) rfl (fun ls hl => ?_)
  refine lv_iconst (v := nI (0)) hx hb dX4_seal_57 (by decide +kernel) ?_
  refine lv_istore (lv' := [(4, .int (nI (0))), (3, .ref (X1)), (2, .ref (X0)), (0, .ref (so)), (1, .int (nI k))]) hx hb dX4_seal_58 hl (by decide) rfl (fun ls hl => ?_)
  have L60 : ∀ (k1 i : Nat) (H : Heap) (locs : List Loc) (ls : Array Slot), ec - i < k1 → i ≤ ec → CH nil_ s.heap H → va_P (gD g) vwCl ([(X0, .inr (3, [.int (nI k), .ref (ra k), .int (dgF (LL k).1 (LL k).2.2), .int (slJ (lsD EE ec) (dgF (LL k).1 (LL k).2.2))]))]) H → va_P (gD g) vwCl (rvW g X1 (prR xa i) (ec + 1)) H → va_S (fA (fun q => q = so) s.heap.size) s.heap H locs → lv_has ls 5 [(4, .int (nI i)), (3, .ref (X1)), (2, .ref (X0)), (0, .ref (so)), (1, .int (nI k))] → W p l e { frames := 2, cells := 2, slots := 28, locals := 32 } s m args below meth c H locs (0 + 1 + 1) (0 + 4 + (ec + 1)) Q (F0 m 60 ls []) := by
    intro k1
    induction k1 with
    | zero => intro i H locs ls hFu; exact absurd hFu (Nat.not_lt_zero _)
    | succ k1 ih1 =>
      intro i H locs ls hFu hLe hC0 hX0 hX1 hS hl
      have hW := hW0.keepN hC0
      refine lv_iload hx hb dX4_seal_60 (lv_at hl 0 rfl) ?_
      refine lv_aload_n hx hb dX4_seal_62 rfl (lv_at hl 3 rfl) ?_
      refine va_get (D := gD g) (ci := 4) (v := .ref (ea)) (C := RX4) (T := TX4) (N := 2) hx hb hts iX4 hown hK.1 hW.1.1 0 rfl rfl 1 (by decide) f17 (fun _ h9 => h9) rfl dX4_seal_63 ?_
      refine va_alen (v := nI (ec)) hx hb hK.1 hW.1.2.2 0 4 rfl (ht := (rfl : (gTy g)[4]? = _)) rfl dX4_seal_66 ?_
      refine br_ge (a := i) (b := ec) (tgt := 87) hx hb (by omega) (by omega) dX4_seal_67 (by decide) (fun c67 => ?_) (fun c67 => ?_)
      · obtain rfl : ec = i := by omega
        refine lv_aload_n hx hb dX4_seal_87 rfl (lv_at hl 1 rfl) ?_
        refine lv_aload_n hx hb dX4_seal_88 rfl (lv_at hl 3 rfl) ?_
        refine va_get (D := gD g) (ci := 4) (v := .ref (ea)) (C := RX4) (T := TX4) (N := 2) hx hb hts iX4 hown hK.1 hW.1.1 0 rfl rfl 1 (by decide) f17 (fun _ h9 => h9) rfl dX4_seal_89 ?_
        refine va_alen (v := nI (ec)) hx hb hK.1 hW.1.2.2 0 4 rfl (ht := (rfl : (gTy g)[4]? = _)) rfl dX4_seal_92 ?_
        refine lv_aload_n hx hb dX4_seal_93 rfl (lv_at hl 2 rfl) ?_
        refine pt_V (k := ec) (n := ec + 1) (f := prR xa ec) hx hb hK hX1 hX0 hS (Or.inr lX1) (by omega) (by omega) dX4_seal_94 (fun H locs hX1 hC hS => ?_)
        have hX0 := hC.one hX0 (by omega)
        have hC0 : CH nil_ s.heap H := hC0.step hC lX1
        have hW := hW0.keepN hC0
        refine lv_aload_n hx hb dX4_seal_95 rfl (lv_at hl 3 rfl) ?_
        refine lv_aload_n hx hb dX4_seal_96 rfl (lv_at hl 1 rfl) ?_
        have hC1 := hC0
        refine pt_O (ci := 4) (v := .ref (X1)) (ty := .array (.object "LetterSealsLaw$Envelope")) (C := RX4) (T := TX4) (N := 2) (fs := [.ref (la), .ref (ea)]) hx hb hts iX4 tyX4 tyX4_ok nmX4 hown hK hW.1.1 hS (Or.inl rfl) rfl 1 (by decide) f17 (fun _ h9 => h9) rfl (by decide +kernel) rfl rfl (Nat.le_of_ble_eq_true rfl) dX4_seal_97 (fun H locs hSo hC hS => ?_)
        have hSo : va_P (gD g) vwCl [(so, .inr (4, [.ref (la), .ref (X1)]))] H := hSo
        exact W.widen (by show _ ≤ 2; omega) (by show _ ≤ 28; omega) (hret _ _ _ _ ⟨rfl, X1, _, _, SW.seal (e := ev) hW0 ((hC1.weaken fun _ _ z => z.elim).trans hC) hBs hk hSo lX1 lX0 (by rw [he.1, he.2.1, he.2.2]; exact hC.one hX0 (by have := one_lt hW0.1.1; omega)) (rq_ext (hC.one hX1 (by have := one_lt hW0.1.1; omega)) (prR_end xa ec X0))⟩ hS dX4_seal_100)
      · refine lv_aload_n hx hb dX4_seal_70 rfl (lv_at hl 1 rfl) ?_
        refine lv_iload hx hb dX4_seal_71 (lv_at hl 0 rfl) ?_
        refine lv_aload_n hx hb dX4_seal_73 rfl (lv_at hl 3 rfl) ?_
        refine va_get (D := gD g) (ci := 4) (v := .ref (ea)) (C := RX4) (T := TX4) (N := 2) hx hb hts iX4 hown hK.1 hW.1.1 0 rfl rfl 1 (by decide) f17 (fun _ h9 => h9) rfl dX4_seal_74 ?_
        refine lv_iload hx hb dX4_seal_77 (lv_at hl 0 rfl) ?_
        refine gt_V (k := i) (r := xa i) hx hb hK hW.1.2.2 rfl (by omega) (by omega) dX4_seal_79 ?_
        refine pt_V (k := i) (n := ec + 1) (f := prR xa i) hx hb hK hX1 (hW.2.2.2 i (by omega)).1 hS (Or.inr lX1) (by omega) (by omega) dX4_seal_80 (fun H locs hX1 hC hS => ?_)
        have hX0 := hC.one hX0 (by omega)
        have hC0 : CH nil_ s.heap H := hC0.step hC lX1
        have hW := hW0.keepN hC0
        refine lv_iinc (v := nI (i + 1)) (lv' := [(4, .int (nI (i + 1))), (3, .ref (X1)), (2, .ref (X0)), (0, .ref (so)), (1, .int (nI k))]) hx hb dX4_seal_81 hl (k := 0) rfl (nI_1 _) (by decide) rfl (fun ls hl => ?_)
        refine lv_goto (tgt := 60) hx hb dX4_seal_84 (by decide) ?_
        exact ih1 (i + 1) H _ _ (by omega) (by omega) hC0 (hX0) (by rw [prR_up] at hX1; exact hX1) hS (lv_sub hl [0, 1, 2, 3, 4] rfl)
  exact L60 (ec + 1) (0) H _ _ (by omega) (by omega) hC0 (hX0) (by rw [prR_0]; exact hX1) hS (lv_sub hl [0, 1, 2, 3, 4] rfl)

set_option maxHeartbeats 4000000 in
set_option maxRecDepth 100000 in
/-- unseal() -/
theorem c_X4_unseal (l : Launch) (g : gT) (sz : Nat) (B so la ea : Nat) (ra xa ta : Nat → Nat) (LL : Nat → ltT) (EE : Nat → evT) (TT : Nat → (Nat → Int32) × Nat) (lc ec : Nat) (hlc : lc ≤ 12) (hec : ec ≤ 24) (he1 : 0 < ec) : nM g l yX4_unseal wsX4_unseal { frames := 0, cells := 1, slots := 24, locals := 0 } [.ref (so)] sz (fun H => SW g B so la ea ra xa ta LL EE TT lc ec H ∧ B ≤ sz) (fun v H => v = some (.int (EE (ec - 1)).2.2.2.2.2.2.1) ∧ ∃ ea2, SW g B so la ea2 ra xa ta LL EE TT lc (ec - 1) H) 1 24 (fun q => q = so) := by
  refine nr_ofI (cc := cX4_unseal) (maxL := 3) (by decide) rfl (Nat.le_of_ble_eq_true rfl) ?_
  intro p e s m args below meth c ls Q hx hb hml hts hown hK hsz hP hl hret
  subst hsz
  have hl : lv_has ls 3 [(0, .ref (so))] := hl
  have S : CallFix p m c cX4_unseal 3 s args wsX4_unseal RX4 := ⟨hx, hb, hml, hown, hts⟩
  obtain ⟨hW0, hBs⟩ := hP
  have iX3 : ∀ w ∈ u_ws RX3 TX3 4, w ∈ wsX4_unseal := by decide +kernel
  have iX4 : ∀ w ∈ u_ws RX4 TX4 2, w ∈ wsX4_unseal := by decide +kernel
  have f17 := hts (.fieldLink RX4 17 "LetterSealsLaw$Sim" "envelopes" "[LLetterSealsLaw$Envelope;") (by decide +kernel)
  have f27 := hts (.fieldLink RX4 27 "LetterSealsLaw$Envelope" "seal" "I") (by decide +kernel)
  have hC00 : CH nil_ s.heap s.heap := CH.rf
  have hS0 : va_S (fA (fun q => q = so) s.heap.size) s.heap s.heap [] := va_S.rf
  obtain ⟨H, eH⟩ : ∃ H : Heap, H = s.heap := ⟨_, rfl⟩
  obtain ⟨locs, eL⟩ : ∃ L : List Loc, L = [] := ⟨_, rfl⟩
  have hC0 : CH nil_ s.heap H := by rw [eH]; exact hC00
  have hS : va_S (fA (fun q => q = so) s.heap.size) s.heap H locs := by rw [eH, eL]; exact hS0
  suffices hgo : W p l e { frames := 0, cells := 1, slots := 24, locals := 0 } s m args below meth c H locs 0 0 Q (F0 m 0 ls []) by rw [eH, eL] at hgo; exact hgo
  clear hC00 hS0 eH eL
  have hW := hW0.keepN hC0
  refine lv_aload_n hx hb dX4_unseal_0 rfl (lv_at hl 0 rfl) ?_
  refine va_get (D := gD g) (ci := 4) (v := .ref (ea)) (C := RX4) (T := TX4) (N := 2) hx hb hts iX4 hown hK.1 hW.1.1 0 rfl rfl 1 (by decide) f17 (fun _ h9 => h9) rfl dX4_unseal_1 ?_
  refine va_alen (v := nI (ec)) hx hb hK.1 hW.1.2.2 0 4 rfl (ht := (rfl : (gTy g)[4]? = _)) rfl dX4_unseal_4 ?_
  refine lv_iconst (v := nI (1)) hx hb dX4_unseal_5 (by decide +kernel) ?_
  refine lv_isub hx hb dX4_unseal_6 ?_
  refine lv_toI (z := nI (ec - 1)) (pk_sub (by omega)) ?_
  refine nw_V (n := ec - 1) hx hb hown (hts (.classLink RX4 15 RX3) (by decide +kernel)) hK hS (by omega) (by show _ ≤ 1; omega) (by show _ ≤ 24; omega) dX4_unseal_7 (fun X0 H hq hX0 hC hS => ?_)
  have lX0 : s.heap.size ≤ X0 := Nat.le_trans hC0.1 hq
  have hC0 := hC0.trans hC
  have hW := hW0.keepN hC0
  refine lv_astore_n (lv' := [(1, .ref (X0)), (0, .ref (so))]) hx hb dX4_unseal_10 rfl hl (by decide) rfl (fun ls hl => ?_)
  refine lv_iconst (v := nI (0)) hx hb dX4_unseal_11 (by decide +kernel) ?_
  refine lv_istore_n (lv' := [(2, .int (nI (0))), (1, .ref (X0)), (0, .ref (so))]) hx hb dX4_unseal_12 rfl hl (by decide) rfl (fun ls hl => ?_)
  have L13 : ∀ (k1 i : Nat) (H : Heap) (locs : List Loc) (ls : Array Slot), (ec - 1) - i < k1 → i ≤ (ec - 1) → CH nil_ s.heap H → va_P (gD g) vwCl (rvW g X0 (prR xa i) (ec - 1)) H → va_S (fA (fun q => q = so) s.heap.size) s.heap H locs → lv_has ls 3 [(2, .int (nI i)), (1, .ref (X0)), (0, .ref (so))] → W p l e { frames := 0, cells := 1, slots := 24, locals := 0 } s m args below meth c H locs (0 + 1) (0 + (ec - 1)) Q (F0 m 13 ls []) := by
    intro k1
    induction k1 with
    | zero => intro i H locs ls hFu; exact absurd hFu (Nat.not_lt_zero _)
    | succ k1 ih1 =>
      intro i H locs ls hFu hLe hC0 hX0 hS hl
      have hW := hW0.keepN hC0
      refine lv_iload_n hx hb dX4_unseal_13 rfl (lv_at hl 0 rfl) ?_
      refine lv_aload_n hx hb dX4_unseal_14 rfl (lv_at hl 1 rfl) ?_
      refine va_alen (v := nI (ec - 1)) hx hb hK.1 hX0 0 4 rfl (ht := (rfl : (gTy g)[4]? = _)) rfl dX4_unseal_15 ?_
      refine br_ge (a := i) (b := ec - 1) (tgt := 34) hx hb (by omega) (by omega) dX4_unseal_16 (by decide) (fun c16 => ?_) (fun c16 => ?_)
      · obtain rfl : (ec - 1) = i := by omega
        refine lv_aload_n hx hb dX4_unseal_34 rfl (lv_at hl 2 rfl) ?_
        refine va_get (D := gD g) (ci := 4) (v := .ref (ea)) (C := RX4) (T := TX4) (N := 2) hx hb hts iX4 hown hK.1 hW.1.1 0 rfl rfl 1 (by decide) f17 (fun _ h9 => h9) rfl dX4_unseal_35 ?_
        refine lv_aload_n hx hb dX4_unseal_38 rfl (lv_at hl 1 rfl) ?_
        refine va_alen (v := nI (ec - 1)) hx hb hK.1 hX0 0 4 rfl (ht := (rfl : (gTy g)[4]? = _)) rfl dX4_unseal_39 ?_
        refine gt_V (k := ec - 1) (r := xa (ec - 1)) hx hb hK hW.1.2.2 rfl (by omega) (by omega) dX4_unseal_40 ?_
        refine va_get (D := gD g) (ci := 3) (v := .int ((EE (ec - 1)).2.2.2.2.2.2.1)) (C := RX3) (T := TX3) (N := 4) hx hb hts iX3 hown hK.1 (hW.2.2.2 (ec - 1) (by omega)).1 0 rfl rfl 3 (by decide) f27 (fun _ h9 => h9) rfl dX4_unseal_41 ?_
        refine lv_istore_n (lv' := [(2, .int ((EE (ec - 1)).2.2.2.2.2.2.1)), (1, .ref (X0)), (0, .ref (so))]) hx hb dX4_unseal_44 rfl hl (by decide) rfl (fun ls hl => ?_)
        refine lv_aload_n hx hb dX4_unseal_45 rfl (lv_at hl 2 rfl) ?_
        refine lv_aload_n hx hb dX4_unseal_46 rfl (lv_at hl 1 rfl) ?_
        have hC1 := hC0
        refine pt_O (ci := 4) (v := .ref (X0)) (ty := .array (.object "LetterSealsLaw$Envelope")) (C := RX4) (T := TX4) (N := 2) (fs := [.ref (la), .ref (ea)]) hx hb hts iX4 tyX4 tyX4_ok nmX4 hown hK hW.1.1 hS (Or.inl rfl) rfl 1 (by decide) f17 (fun _ h9 => h9) rfl (by decide +kernel) rfl rfl (Nat.le_of_ble_eq_true rfl) dX4_unseal_47 (fun H locs hSo hC hS => ?_)
        have hSo : va_P (gD g) vwCl [(so, .inr (4, [.ref (la), .ref (X0)]))] H := hSo
        refine lv_iload_n hx hb dX4_unseal_50 rfl (lv_at hl 0 rfl) ?_
        exact W.widen (by show _ ≤ 1; omega) (by show _ ≤ 24; omega) (hret _ _ _ _ _ ⟨rfl, X0, SW.unseal hW0 ((hC1.weaken fun _ _ z => z.elim).trans hC) hBs hSo lX0 (rq_ext (hC.one hX0 (by have := one_lt hW0.1.1; omega)) (prR_all xa (ec - 1)))⟩ hS dX4_unseal_51)
      · refine lv_aload_n hx hb dX4_unseal_19 rfl (lv_at hl 1 rfl) ?_
        refine lv_iload_n hx hb dX4_unseal_20 rfl (lv_at hl 0 rfl) ?_
        refine lv_aload_n hx hb dX4_unseal_21 rfl (lv_at hl 2 rfl) ?_
        refine va_get (D := gD g) (ci := 4) (v := .ref (ea)) (C := RX4) (T := TX4) (N := 2) hx hb hts iX4 hown hK.1 hW.1.1 0 rfl rfl 1 (by decide) f17 (fun _ h9 => h9) rfl dX4_unseal_22 ?_
        refine lv_iload_n hx hb dX4_unseal_25 rfl (lv_at hl 0 rfl) ?_
        refine gt_V (k := i) (r := xa i) hx hb hK hW.1.2.2 rfl (by omega) (by omega) dX4_unseal_26 ?_
        refine pt_V (k := i) (n := ec - 1) (f := prR xa i) hx hb hK hX0 (hW.2.2.2 i (by omega)).1 hS (Or.inr lX0) (by omega) (by omega) dX4_unseal_27 (fun H locs hX0 hC hS => ?_)
        have hC0 : CH nil_ s.heap H := hC0.step hC lX0
        have hW := hW0.keepN hC0
        refine lv_iinc (v := nI (i + 1)) (lv' := [(2, .int (nI (i + 1))), (1, .ref (X0)), (0, .ref (so))]) hx hb dX4_unseal_28 hl (k := 0) rfl (nI_1 _) (by decide) rfl (fun ls hl => ?_)
        refine lv_goto (tgt := 13) hx hb dX4_unseal_31 (by decide) ?_
        exact ih1 (i + 1) H _ _ (by omega) (by omega) hC0 (by rw [prR_up] at hX0; exact hX0) hS (lv_sub hl [0, 1, 2] rfl)
  exact L13 ((ec - 1) + 1) (0) H _ _ (by omega) (by omega) hC0 (by rw [prR_0]; exact hX0) hS (lv_sub hl [0, 1, 2] rfl)
