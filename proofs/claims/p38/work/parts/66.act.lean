/-! THE LAW'S ACT: one thing done to both desks -/
theorem sg_upd {f : Nat → Int32} {n n2 k u : Nat} (h : ∀ j, j < n → ∃ u : Nat, u ≤ 30 ∧ f j = nI u) (hu : u ≤ 30) (hk : n2 ≤ n ∨ (n2 = n + 1 ∧ k = n)) : ∀ j, j < n2 → ∃ v : Nat, v ≤ 30 ∧ upd f k (nI u) j = nI v := by
  intro j hj
  unfold upd
  by_cases hjk : j = k
  · exact ⟨u, hu, if_pos hjk⟩
  · rw [if_neg hjk]; exact h j (by omega)
theorem hs_ok : ∀ sg, sg < 30 → (decide ((0 : Int32) ≤ nI sg) && decide (nI sg ≤ (29 : Int32))) = true := by decide +kernel
theorem mx_ok : ∀ n, n < 41 → (if (nI 0) < nI n - 1 then nI n - 1 else nI 0) = nI (n - 1) := by decide +kernel
theorem i27 : (27 : Int32) = nI 27 := by decide +kernel
theorem i30 : (30 : Int32) = nI 30 := by decide +kernel
theorem lets_one {LL : Nat → ltT} {lc2 k n : Nat} {f f2 w w2 : Nat → Int32} (h : ∀ j, j < n → f j = f2 j) : ∀ i, i < lc2 → ((fup LL k ((f2, w2, n) : ltT)) i).2.2 = ((fup LL k ((f, w, n) : ltT)) i).2.2 ∧ ∀ j, j < ((fup LL k ((f, w, n) : ltT)) i).2.2 → ((fup LL k ((f, w, n) : ltT)) i).1 j = ((fup LL k ((f2, w2, n) : ltT)) i).1 j := by
  intro i _
  by_cases h1 : i = k
  · subst h1; rw [fup_at, fup_at]; exact ⟨rfl, h⟩
  · rw [fup_ne _ _ h1, fup_ne _ _ h1]; exact ⟨rfl, fun _ _ => rfl⟩
theorem lets_id {LL : Nat → ltT} {lc2 k n : Nat} {f w : Nat → Int32} (hn : (LL k).2.2 = n) (h : ∀ j, j < n → f j = (LL k).1 j) : ∀ i, i < lc2 → (LL i).2.2 = ((fup LL k ((f, w, n) : ltT)) i).2.2 ∧ ∀ j, j < ((fup LL k ((f, w, n) : ltT)) i).2.2 → ((fup LL k ((f, w, n) : ltT)) i).1 j = (LL i).1 j := by
  intro i _
  by_cases h1 : i = k
  · subst h1; rw [fup_at]; exact ⟨hn, h⟩
  · rw [fup_ne _ _ h1]; exact ⟨rfl, fun _ _ => rfl⟩
theorem upd_id {f : Nat → Int32} {k : Nat} {x : Int32} (h : f k = x) (n : Nat) : ∀ j, j < n → upd f k x j = f j := by
  intro j _
  unfold upd
  by_cases hj : j = k
  · subst hj; rw [if_pos rfl, h]
  · rw [if_neg hj]

set_option maxHeartbeats 4000000 in
set_option maxRecDepth 100000 in
/-- a new letter -/
theorem act_26 {p : Program} {e : Env} {s : State} {m : MethodId} {args : Array Value} {below : List Frame} {meth : Method} {c : Code} {Q : State → Prop} (l : Launch) (hlt : l.stackTraces = false) (g : gT) {B0 B so : Nat} {AD : Nat → Nat} {LL : Nat → ltT} {EE : Nat → evT} {LN : Nat → Nat} {TT : Nat → (Nat → Int32) × Nat} {lc ec la ea : Nat} {ra xa ta : Nat → Nat} {x : Int32} (hx : p.tables.exec = Jvm.exec) (hb : c.code = cL_act) (hml : c.maxLocals = 13) (hts : ∀ w ∈ wsL_act, w.before args s = true) (hown : s.vm.findClass RL = some m.cls) (hK : KK g s) (hZ0 : ZB B0 s s.heap) (htab : c.exceptionTable.toList = tableOf [(17, 69, 822, 82), (70, 264, 822, 82), (265, 323, 822, 82), (324, 419, 822, 82), (420, 426, 822, 82), (427, 520, 822, 82), (521, 527, 822, 82), (528, 622, 822, 82), (623, 684, 822, 82), (685, 734, 822, 82), (735, 813, 822, 82), (814, 821, 822, 82)]) (hJD : JD B0 B AD) (hBH : B ≤ s.heap.size) (hI : Iv LL EE LN TT lc ec) (hDk0 : va_P (gD g) vwCl (wsD g AD LL EE lc ec) s.heap) (hW0 : SW g B so la ea ra xa ta LL EE TT lc ec s.heap)
    (hret : ∀ (pc : Nat) (ls : Array Slot) (H : Heap) (locs : List Loc) (LL2 : Nat → ltT) (EE2 : Nat → evT) (LN2 : Nat → Nat) (TT2 : Nat → (Nat → Int32) × Nat) (lc2 ec2 la2 ea2 : Nat) (ra2 xa2 ta2 : Nat → Nat), JW g B AD so LL2 EE2 LN2 TT2 lc2 ec2 la2 ea2 ra2 xa2 ta2 H → lc ≤ lc2 → 1 ≤ lc2 → va_S (fA (bA B0) s.heap.size) s.heap H locs → decode cL_act pc = .ok (.ireturn, 1) → W p l e { frames := 9, cells := 7, slots := 220, locals := 150 } s m args below meth c H locs 7 220 Q (F0 m pc ls [.int 1]))
    {r : Nat} (ls : Array Slot) (hl : lv_has ls 13 [(0, .ref (AD 0)), (1, .ref (so)), (2, .int (x)), (3, .int (nI (lc))), (4, .int (nI (r))), (5, .int (1))]) : W p l e { frames := 9, cells := 7, slots := 220, locals := 150 } s m args below meth c s.heap [] 0 0 Q (F0 m 26 ls []) := by
  have S : CallFix p m c cL_act 13 s args wsL_act RL := ⟨hx, hb, hml, hown, hts⟩
  have hlc12 := hI.1
  have hec24 := hI.2.1
  have hBso : B ≤ so := hW0.2.1.1
  have hBla : B ≤ la := hW0.2.1.2.1
  have hB0B : B0 ≤ B := hJD.2.2
  have hlso := one_lt hW0.1.1
  have hlla := one_lt hW0.1.2.1
  have hC00 : CH nil_ s.heap s.heap := CH.rf
  have hS0 : va_S (fA (bA B0) s.heap.size) s.heap s.heap [] := va_S.rf
  obtain ⟨H, eH⟩ : ∃ H : Heap, H = s.heap := ⟨_, rfl⟩
  obtain ⟨locs, eL⟩ : ∃ L : List Loc, L = [] := ⟨_, rfl⟩
  have hC0 : CH nil_ s.heap H := by rw [eH]; exact hC00
  have hS : va_S (fA (bA B0) s.heap.size) s.heap H locs := by rw [eH, eL]; exact hS0
  suffices hgo : W p l e { frames := 9, cells := 7, slots := 220, locals := 150 } s m args below meth c H locs 0 0 Q (F0 m 26 ls []) by rw [eH, eL] at hgo; exact hgo
  clear hC00 hS0 eH eL
  have hW := hW0.keepN hC0
  have hDk := dk_kept hDk0 hC0 (fun _ _ z => z)
  have hZ := hZ0.kept hC0 (fun _ z => z.elim)
  refine lv_iload_n hx hb dL_act_26 rfl (lv_at hl 3 rfl) ?_
  refine lv_bipush (v := nI (12)) hx hb dL_act_27 (by decide +kernel) ?_
  refine br_ge (a := lc) (b := 12) (tgt := 36) hx hb (by omega) (by omega) dL_act_29 (by decide) (fun c29 => ?_) (fun c29 => ?_)
  · refine lv_iconst (v := 0) hx hb dL_act_36 (by decide +kernel) ?_
    refine lv_istore (lv' := [(5, .int (0)), (0, .ref (AD 0)), (1, .ref (so)), (2, .int (x)), (3, .int (nI (lc))), (4, .int (nI (r)))]) hx hb dL_act_37 hl (by decide) rfl (fun ls hl => ?_)
    refine lv_iload hx hb dL_act_39 (lv_at hl 0 rfl) ?_
    refine lv_if_eq (tgt := 51) hx hb dL_act_41 (by decide) (fun c41 => ?_) (fun c41 => ?_)
    · refine lv_aload_n hx hb dL_act_51 rfl (lv_at hl 1 rfl) ?_
      refine cx_V (E := "java/lang/IllegalStateException") (As := []) (rest := []) S (c_X2_addLetter_x l hlt g AD LL EE LN lc ec hI.1 hI.2.1 hI.hLL hI.hEE (by omega)) (cwV 0 hts gL_act_X2_addLetter rfl rfl rfl (by decide +kernel) ⟨Nat.le_of_ble_eq_true rfl, Nat.le_of_ble_eq_true rfl⟩) hK hZ.zz (va_recv hK.1 hDk (ci := 2) (q0 := 0) rfl dk_me) hDk hS rfl hl.1 rfl (Nat.le_of_ble_eq_true rfl) dL_act_52 ⟨by show _ ≤ 7; omega, by show _ ≤ 220; omega⟩ [] ⟨17, 69, 822, 82⟩ [⟨70, 264, 822, 82⟩, ⟨265, 323, 822, 82⟩, ⟨324, 419, 822, 82⟩, ⟨420, 426, 822, 82⟩, ⟨427, 520, 822, 82⟩, ⟨521, 527, 822, 82⟩, ⟨528, 622, 822, 82⟩, ⟨623, 684, 822, 82⟩, ⟨685, 734, 822, 82⟩, ⟨735, 813, 822, 82⟩, ⟨814, 821, 822, 82⟩] htab (fun z hz => Or.inl ((by decide : ∀ z ∈ ([] : List ExceptionTableEntry), covers z 52 = false) z hz)) (by decide) (by decide) (hts (.classLink RL 82 "java/lang/IllegalStateException") (by decide +kernel)) (List.mem_of_getElem? (i := 2) rfl) (fun H qx hC hS => ?_)
      have hDk := dk_kept hDk hC (fun _ _ z => z)
      have hZ := hZ.kept hC (fun _ z => z.elim)
      have hW := hW.keepN hC
      refine lv_astore (lv' := [(6, .ref (qx)), (5, .int (0)), (0, .ref (AD 0)), (1, .ref (so)), (2, .int (x)), (3, .int (nI (lc))), (4, .int (nI (r)))]) hx hb dL_act_822 hl (by decide) rfl (fun ls hl => ?_)
      refine lv_iload hx hb dL_act_824 (lv_at hl 1 rfl) ?_
      refine lv_if_ne (tgt := 833) hx hb dL_act_826 (by decide) (fun c826 => ?_) (fun c826 => ?_)
      · exact absurd rfl c826
      · refine lv_iconst (v := 1) hx hb dL_act_829 (by decide +kernel) ?_
        refine lv_goto (tgt := 834) hx hb dL_act_830 (by decide) ?_
        have hI2 := hI
        exact W.widen (by show _ ≤ 7; omega) (by show _ ≤ 220; omega) (hret _ _ _ _ _ _ _ _ _ _ _ _ _ _ _ ⟨hI2, hDk, hW⟩ (by omega) (by omega) hS dL_act_834)
    · exact absurd rfl c41
  · refine lv_iconst (v := 1) hx hb dL_act_32 (by decide +kernel) ?_
    refine lv_goto (tgt := 37) hx hb dL_act_33 (by decide) ?_
    refine lv_istore (lv' := [(5, .int (1)), (0, .ref (AD 0)), (1, .ref (so)), (2, .int (x)), (3, .int (nI (lc))), (4, .int (nI (r)))]) hx hb dL_act_37 hl (by decide) rfl (fun ls hl => ?_)
    refine lv_iload hx hb dL_act_39 (lv_at hl 0 rfl) ?_
    refine lv_if_eq (tgt := 51) hx hb dL_act_41 (by decide) (fun c41 => ?_) (fun c41 => ?_)
    · exact absurd c41 (by decide +kernel)
    · refine lv_aload_n hx hb dL_act_44 rfl (lv_at hl 2 rfl) ?_
      refine lv_iconst (v := nI (0)) hx hb dL_act_45 (by decide +kernel) ?_
      refine nw_I (n := 0) hx hb (hts (.arrayClass .int) (by decide +kernel)) hK hS (by omega) (by show _ ≤ 7; omega) (by show _ ≤ 220; omega) dL_act_46 (fun X0 H hq hX0 hC hS => ?_)
      have lX0 : s.heap.size ≤ X0 := Nat.le_trans hC0.1 hq
      have hC0 := hC0.trans hC
      have hW := hW0.keepN hC0
      have hDk := dk_kept hDk0 hC0 (fun _ _ z => z)
      have hZ := hZ0.kept hC0 (fun _ z => z.elim)
      refine n_V (As := [.ref (X0)]) (rest := []) S (c_X4_add l g H.size B so la ea ra xa ta LL EE TT lc ec X0 (fun _ => 0) (LL lc).2.1 0 (by omega) (by omega)) (cwV 1 hts gL_act_X4_add rfl rfl rfl (by decide +kernel) ⟨Nat.le_of_ble_eq_true rfl, Nat.le_of_ble_eq_true rfl⟩) hK (va_recv hK.1 hW.1.1 (ci := 4) (q0 := 0) rfl rfl) (⟨hW, hX0, by omega, by omega, Nat.le_trans hBH hS.1⟩) hS (fun q hq => Or.inl (show B0 ≤ q by omega)) (fun q hq => Or.inr hq) rfl hl.1 rfl (Nat.le_of_ble_eq_true rfl) dL_act_48 ⟨by show _ ≤ 7; omega, by show _ ≤ 220; omega⟩ (fun v H locs hpost hC hS => ?_)
      obtain ⟨rfl, la2, ra2, hW⟩ := hpost
      have hDk := dk_kept hDk hC (fun k9 hk9 z => by have := hJD.2.1 k9 hk9; omega)
      have hZ := hZ.kept hC (fun q z => by subst z; omega)
      refine lv_aload_n hx hb dL_act_51 rfl (lv_at hl 1 rfl) ?_
      refine w_V (As := []) (rest := []) S (c_X2_addLetter l g AD LL EE LN lc ec hI.1 hI.2.1 hI.hLL hI.hEE (by omega)) (cwV 0 hts gL_act_X2_addLetter rfl rfl rfl (by decide +kernel) ⟨Nat.le_of_ble_eq_true rfl, Nat.le_of_ble_eq_true rfl⟩) hK (va_recv hK.1 hDk (ci := 2) (q0 := 0) rfl dk_me) hDk hJD.D hS (fun q hq => Or.inl (hJD.wA hq).1) rfl hl.1 rfl (Nat.le_of_ble_eq_true rfl) dL_act_52 ⟨by show _ ≤ 7; omega, by show _ ≤ 220; omega⟩ (fun H locs hDk hz1 hk1 hS => ?_)
      have hC : CH (wA (wsD g AD LL EE lc ec)) _ H := ⟨hz1, hk1⟩
      have hZ := hZ.kept hC (fun q z => (hJD.wA z).1)
      have hW := hW.keep hC (fun q h1 _ h2 => by have := hJD.wA h2; omega)
      refine lv_iload_n hx hb dL_act_55 rfl (lv_at hl 4 rfl) ?_
      refine br_ne (a := lc) (b := lc) (tgt := 68) hx hb (by omega) (by omega) dL_act_56 (by decide) (fun c56 => ?_) (fun c56 => ?_)
      · exact absurd rfl c56
      · refine lv_iload hx hb dL_act_59 (lv_at hl 0 rfl) ?_
        refine lv_if_eq (tgt := 68) hx hb dL_act_61 (by decide) (fun c61 => ?_) (fun c61 => ?_)
        · exact absurd c61 (by decide +kernel)
        · refine lv_iconst (v := 1) hx hb dL_act_64 (by decide +kernel) ?_
          refine lv_goto (tgt := 69) hx hb dL_act_65 (by decide) ?_
          have hI2 := hI.add (by omega)
          have hW := hW.lets (lets_id (hI.2.2.2.1 lc (Nat.le_refl _) (by omega)) (fun j hj => absurd hj (Nat.not_lt_zero j)))
          exact W.widen (by show _ ≤ 7; omega) (by show _ ≤ 220; omega) (hret _ _ _ _ _ _ _ _ _ _ _ _ _ _ _ ⟨hI2, hDk, hW⟩ (by omega) (by omega) hS dL_act_69)

set_option maxHeartbeats 4000000 in
set_option maxRecDepth 100000 in
/-- a copy -/
theorem act_220 {p : Program} {e : Env} {s : State} {m : MethodId} {args : Array Value} {below : List Frame} {meth : Method} {c : Code} {Q : State → Prop} (l : Launch) (hlt : l.stackTraces = false) (g : gT) {B0 B so : Nat} {AD : Nat → Nat} {LL : Nat → ltT} {EE : Nat → evT} {LN : Nat → Nat} {TT : Nat → (Nat → Int32) × Nat} {lc ec la ea : Nat} {ra xa ta : Nat → Nat} {x : Int32} (hx : p.tables.exec = Jvm.exec) (hb : c.code = cL_act) (hml : c.maxLocals = 13) (hts : ∀ w ∈ wsL_act, w.before args s = true) (hown : s.vm.findClass RL = some m.cls) (hK : KK g s) (hZ0 : ZB B0 s s.heap) (htab : c.exceptionTable.toList = tableOf [(17, 69, 822, 82), (70, 264, 822, 82), (265, 323, 822, 82), (324, 419, 822, 82), (420, 426, 822, 82), (427, 520, 822, 82), (521, 527, 822, 82), (528, 622, 822, 82), (623, 684, 822, 82), (685, 734, 822, 82), (735, 813, 822, 82), (814, 821, 822, 82)]) (hJD : JD B0 B AD) (hBH : B ≤ s.heap.size) (hI : Iv LL EE LN TT lc ec) (hDk0 : va_P (gD g) vwCl (wsD g AD LL EE lc ec) s.heap) (hW0 : SW g B so la ea ra xa ta LL EE TT lc ec s.heap)
    (hret : ∀ (pc : Nat) (ls : Array Slot) (H : Heap) (locs : List Loc) (LL2 : Nat → ltT) (EE2 : Nat → evT) (LN2 : Nat → Nat) (TT2 : Nat → (Nat → Int32) × Nat) (lc2 ec2 la2 ea2 : Nat) (ra2 xa2 ta2 : Nat → Nat), JW g B AD so LL2 EE2 LN2 TT2 lc2 ec2 la2 ea2 ra2 xa2 ta2 H → lc ≤ lc2 → 1 ≤ lc2 → va_S (fA (bA B0) s.heap.size) s.heap H locs → decode cL_act pc = .ok (.ireturn, 1) → W p l e { frames := 9, cells := 7, slots := 220, locals := 150 } s m args below meth c H locs 7 220 Q (F0 m pc ls [.int 1]))
    {r k sg pl : Nat} (hr : r < 18) (hk : k < lc) (hsg : sg < 30) (hpl : pl < (LL k).2.2 ∨ ((LL k).2.2 = 0 ∧ pl = 0)) (ls : Array Slot) (hl : lv_has ls 13 [(0, .ref (AD 0)), (1, .ref (so)), (2, .int (x)), (3, .int (nI (lc))), (4, .int (nI (r))), (5, .int (1)), (6, .int (nI (k))), (7, .ref (ra k)), (8, .int (nI ((LL k).2.2))), (9, .int (nI (sg))), (10, .int (nI (pl)))]) : W p l e { frames := 9, cells := 7, slots := 220, locals := 150 } s m args below meth c s.heap [] 0 0 Q (F0 m 220 ls []) := by
  have S : CallFix p m c cL_act 13 s args wsL_act RL := ⟨hx, hb, hml, hown, hts⟩
  have hlc12 := hI.1
  have hec24 := hI.2.1
  have hBso : B ≤ so := hW0.2.1.1
  have hBla : B ≤ la := hW0.2.1.2.1
  have hB0B : B0 ≤ B := hJD.2.2
  have hlso := one_lt hW0.1.1
  have hlla := one_lt hW0.1.2.1
  have hle := hI.le hk
  have hOw0 := (hW0.2.2.1 k hk).1
  have hOw1 := (hW0.2.2.1 k hk).2
  have hOw2 := one_lt hOw0
  have hC00 : CH nil_ s.heap s.heap := CH.rf
  have hS0 : va_S (fA (bA B0) s.heap.size) s.heap s.heap [] := va_S.rf
  obtain ⟨H, eH⟩ : ∃ H : Heap, H = s.heap := ⟨_, rfl⟩
  obtain ⟨locs, eL⟩ : ∃ L : List Loc, L = [] := ⟨_, rfl⟩
  have hC0 : CH nil_ s.heap H := by rw [eH]; exact hC00
  have hS : va_S (fA (bA B0) s.heap.size) s.heap H locs := by rw [eH, eL]; exact hS0
  suffices hgo : W p l e { frames := 9, cells := 7, slots := 220, locals := 150 } s m args below meth c H locs 0 0 Q (F0 m 220 ls []) by rw [eH, eL] at hgo; exact hgo
  clear hC00 hS0 eH eL
  have hW := hW0.keepN hC0
  have hDk := dk_kept hDk0 hC0 (fun _ _ z => z)
  have hZ := hZ0.kept hC0 (fun _ z => z.elim)
  have hOw := hC0.one hOw0 (fun z => z)
  refine lv_iload_n hx hb dL_act_220 rfl (lv_at hl 3 rfl) ?_
  refine lv_bipush (v := nI (12)) hx hb dL_act_221 (by decide +kernel) ?_
  refine br_ge (a := lc) (b := 12) (tgt := 230) hx hb (by omega) (by omega) dL_act_223 (by decide) (fun c223 => ?_) (fun c223 => ?_)
  · refine lv_iconst (v := 0) hx hb dL_act_230 (by decide +kernel) ?_
    refine lv_istore (lv' := [(5, .int (0)), (0, .ref (AD 0)), (1, .ref (so)), (2, .int (x)), (3, .int (nI (lc))), (4, .int (nI (r))), (6, .int (nI (k))), (7, .ref (ra k)), (8, .int (nI ((LL k).2.2))), (9, .int (nI (sg))), (10, .int (nI (pl)))]) hx hb dL_act_231 hl (by decide) rfl (fun ls hl => ?_)
    refine lv_iload hx hb dL_act_233 (lv_at hl 0 rfl) ?_
    refine lv_if_eq (tgt := 244) hx hb dL_act_235 (by decide) (fun c235 => ?_) (fun c235 => ?_)
    · refine lv_aload_n hx hb dL_act_244 rfl (lv_at hl 1 rfl) ?_
      refine lv_iload hx hb dL_act_245 (lv_at hl 6 rfl) ?_
      refine cx_V (E := "java/lang/IllegalStateException") (As := [.int (nI (k))]) (rest := []) S (c_X2_copyLetter_s l hlt g AD LL EE LN lc ec hI.1 hI.2.1 hI.hLL hI.hEE k hk (by omega)) (cwV 1 hts gL_act_X2_copyLetter rfl rfl rfl (by decide +kernel) ⟨Nat.le_of_ble_eq_true rfl, Nat.le_of_ble_eq_true rfl⟩) hK hZ.zz (va_recv hK.1 hDk (ci := 2) (q0 := 0) rfl dk_me) hDk hS rfl hl.1 rfl (Nat.le_of_ble_eq_true rfl) dL_act_247 ⟨by show _ ≤ 7; omega, by show _ ≤ 220; omega⟩ [⟨17, 69, 822, 82⟩] ⟨70, 264, 822, 82⟩ [⟨265, 323, 822, 82⟩, ⟨324, 419, 822, 82⟩, ⟨420, 426, 822, 82⟩, ⟨427, 520, 822, 82⟩, ⟨521, 527, 822, 82⟩, ⟨528, 622, 822, 82⟩, ⟨623, 684, 822, 82⟩, ⟨685, 734, 822, 82⟩, ⟨735, 813, 822, 82⟩, ⟨814, 821, 822, 82⟩] htab (fun z hz => Or.inl ((by decide : ∀ z ∈ ([⟨17, 69, 822, 82⟩] : List ExceptionTableEntry), covers z 247 = false) z hz)) (by decide) (by decide) (hts (.classLink RL 82 "java/lang/IllegalStateException") (by decide +kernel)) (List.mem_of_getElem? (i := 2) rfl) (fun H qx hC hS => ?_)
      have hDk := dk_kept hDk hC (fun _ _ z => z)
      have hZ := hZ.kept hC (fun _ z => z.elim)
      have hW := hW.keepN hC
      have hOw := hC.one hOw (fun z => z)
      refine lv_astore (lv' := [(6, .ref (qx)), (5, .int (0)), (0, .ref (AD 0)), (1, .ref (so)), (2, .int (x)), (3, .int (nI (lc))), (4, .int (nI (r))), (7, .ref (ra k)), (8, .int (nI ((LL k).2.2))), (9, .int (nI (sg))), (10, .int (nI (pl)))]) hx hb dL_act_822 hl (by decide) rfl (fun ls hl => ?_)
      refine lv_iload hx hb dL_act_824 (lv_at hl 1 rfl) ?_
      refine lv_if_ne (tgt := 833) hx hb dL_act_826 (by decide) (fun c826 => ?_) (fun c826 => ?_)
      · exact absurd rfl c826
      · refine lv_iconst (v := 1) hx hb dL_act_829 (by decide +kernel) ?_
        refine lv_goto (tgt := 834) hx hb dL_act_830 (by decide) ?_
        have hI2 := hI
        exact W.widen (by show _ ≤ 7; omega) (by show _ ≤ 220; omega) (hret _ _ _ _ _ _ _ _ _ _ _ _ _ _ _ ⟨hI2, hDk, hW⟩ (by omega) (by omega) hS dL_act_834)
    · exact absurd rfl c235
  · refine lv_iconst (v := 1) hx hb dL_act_226 (by decide +kernel) ?_
    refine lv_goto (tgt := 231) hx hb dL_act_227 (by decide) ?_
    refine lv_istore (lv' := [(5, .int (1)), (0, .ref (AD 0)), (1, .ref (so)), (2, .int (x)), (3, .int (nI (lc))), (4, .int (nI (r))), (6, .int (nI (k))), (7, .ref (ra k)), (8, .int (nI ((LL k).2.2))), (9, .int (nI (sg))), (10, .int (nI (pl)))]) hx hb dL_act_231 hl (by decide) rfl (fun ls hl => ?_)
    refine lv_iload hx hb dL_act_233 (lv_at hl 0 rfl) ?_
    refine lv_if_eq (tgt := 244) hx hb dL_act_235 (by decide) (fun c235 => ?_) (fun c235 => ?_)
    · exact absurd c235 (by decide +kernel)
    · refine lv_aload_n hx hb dL_act_238 rfl (lv_at hl 2 rfl) ?_
      refine lv_aload hx hb dL_act_239 (lv_at hl 7 rfl) ?_
      refine n_V (As := [.ref (ra k)]) (rest := []) S (c_X4_add l g H.size B so la ea ra xa ta LL EE TT lc ec (ra k) (LL k).1 (LL lc).2.1 (LL k).2.2 (by omega) (by omega)) (cwV 1 hts gL_act_X4_add rfl rfl rfl (by decide +kernel) ⟨Nat.le_of_ble_eq_true rfl, Nat.le_of_ble_eq_true rfl⟩) hK (va_recv hK.1 hW.1.1 (ci := 4) (q0 := 0) rfl rfl) (⟨hW, (hW.2.2.1 k hk).1, by omega, by omega, Nat.le_trans hBH hS.1⟩) hS (fun q hq => Or.inl (show B0 ≤ q by omega)) (fun q hq => Or.inr hq) rfl hl.1 rfl (Nat.le_of_ble_eq_true rfl) dL_act_241 ⟨by show _ ≤ 7; omega, by show _ ≤ 220; omega⟩ (fun v H locs hpost hC hS => ?_)
      obtain ⟨rfl, la2, ra2, hW⟩ := hpost
      have hDk := dk_kept hDk hC (fun k9 hk9 z => by have := hJD.2.1 k9 hk9; omega)
      have hZ := hZ.kept hC (fun q z => by subst z; omega)
      have hOw := hC.one hOw (by omega)
      refine lv_aload_n hx hb dL_act_244 rfl (lv_at hl 1 rfl) ?_
      refine lv_iload hx hb dL_act_245 (lv_at hl 6 rfl) ?_
      refine w_V (As := [.int (nI (k))]) (rest := []) S (c_X2_copyLetter l g AD LL EE LN lc ec hI.1 hI.2.1 hI.hLL hI.hEE k hk (by omega)) (cwV 1 hts gL_act_X2_copyLetter rfl rfl rfl (by decide +kernel) ⟨Nat.le_of_ble_eq_true rfl, Nat.le_of_ble_eq_true rfl⟩) hK (va_recv hK.1 hDk (ci := 2) (q0 := 0) rfl dk_me) hDk hJD.D hS (fun q hq => Or.inl (hJD.wA hq).1) rfl hl.1 rfl (Nat.le_of_ble_eq_true rfl) dL_act_247 ⟨by show _ ≤ 7; omega, by show _ ≤ 220; omega⟩ (fun H locs hDk hz1 hk1 hS => ?_)
      have hC : CH (wA (wsD g AD LL EE lc ec)) _ H := ⟨hz1, hk1⟩
      have hZ := hZ.kept hC (fun q z => (hJD.wA z).1)
      have hW := hW.keep hC (fun q h1 _ h2 => by have := hJD.wA h2; omega)
      have hOw := hC.one hOw (fun h2 => by have := hJD.wA h2; omega)
      refine lv_iload_n hx hb dL_act_250 rfl (lv_at hl 4 rfl) ?_
      refine br_ne (a := lc) (b := lc) (tgt := 263) hx hb (by omega) (by omega) dL_act_251 (by decide) (fun c251 => ?_) (fun c251 => ?_)
      · exact absurd rfl c251
      · refine lv_iload hx hb dL_act_254 (lv_at hl 0 rfl) ?_
        refine lv_if_eq (tgt := 263) hx hb dL_act_256 (by decide) (fun c256 => ?_) (fun c256 => ?_)
        · exact absurd c256 (by decide +kernel)
        · refine lv_iconst (v := 1) hx hb dL_act_259 (by decide +kernel) ?_
          refine lv_goto (tgt := 264) hx hb dL_act_260 (by decide) ?_
          have hI2 := hI.set (k := lc) (lc2 := lc + 1) (f := flF (LL lc).1 (LL k).1 (LL k).2.2) (w := (LL lc).2.1) (n := (LL k).2.2) (Nat.le_succ lc) (by omega) (Nat.lt_succ_self lc) (Or.inr ⟨rfl, rfl⟩) hle (fun j hj => by rw [flF_in hj]; exact hI.sg hk j hj)
          have hW := hW.lets (lets_one (f2 := flF (LL lc).1 (LL k).1 (LL k).2.2) (w2 := (LL lc).2.1) (fun j hj => (flF_in hj).symm))
          exact W.widen (by show _ ≤ 7; omega) (by show _ ≤ 220; omega) (hret _ _ _ _ _ _ _ _ _ _ _ _ _ _ _ ⟨hI2, hDk, hW⟩ (by omega) (by omega) hS dL_act_264)

set_option maxHeartbeats 4000000 in
set_option maxRecDepth 100000 in
/-- a sign more -/
theorem act_265 {p : Program} {e : Env} {s : State} {m : MethodId} {args : Array Value} {below : List Frame} {meth : Method} {c : Code} {Q : State → Prop} (l : Launch) (hlt : l.stackTraces = false) (g : gT) {B0 B so : Nat} {AD : Nat → Nat} {LL : Nat → ltT} {EE : Nat → evT} {LN : Nat → Nat} {TT : Nat → (Nat → Int32) × Nat} {lc ec la ea : Nat} {ra xa ta : Nat → Nat} {x : Int32} (hx : p.tables.exec = Jvm.exec) (hb : c.code = cL_act) (hml : c.maxLocals = 13) (hts : ∀ w ∈ wsL_act, w.before args s = true) (hown : s.vm.findClass RL = some m.cls) (hK : KK g s) (hZ0 : ZB B0 s s.heap) (htab : c.exceptionTable.toList = tableOf [(17, 69, 822, 82), (70, 264, 822, 82), (265, 323, 822, 82), (324, 419, 822, 82), (420, 426, 822, 82), (427, 520, 822, 82), (521, 527, 822, 82), (528, 622, 822, 82), (623, 684, 822, 82), (685, 734, 822, 82), (735, 813, 822, 82), (814, 821, 822, 82)]) (hJD : JD B0 B AD) (hBH : B ≤ s.heap.size) (hI : Iv LL EE LN TT lc ec) (hDk0 : va_P (gD g) vwCl (wsD g AD LL EE lc ec) s.heap) (hW0 : SW g B so la ea ra xa ta LL EE TT lc ec s.heap)
    (hret : ∀ (pc : Nat) (ls : Array Slot) (H : Heap) (locs : List Loc) (LL2 : Nat → ltT) (EE2 : Nat → evT) (LN2 : Nat → Nat) (TT2 : Nat → (Nat → Int32) × Nat) (lc2 ec2 la2 ea2 : Nat) (ra2 xa2 ta2 : Nat → Nat), JW g B AD so LL2 EE2 LN2 TT2 lc2 ec2 la2 ea2 ra2 xa2 ta2 H → lc ≤ lc2 → 1 ≤ lc2 → va_S (fA (bA B0) s.heap.size) s.heap H locs → decode cL_act pc = .ok (.ireturn, 1) → W p l e { frames := 9, cells := 7, slots := 220, locals := 150 } s m args below meth c H locs 7 220 Q (F0 m pc ls [.int 1]))
    {r k sg pl : Nat} (hr : r < 18) (hk : k < lc) (hsg : sg < 30) (hpl : pl < (LL k).2.2 ∨ ((LL k).2.2 = 0 ∧ pl = 0)) (ls : Array Slot) (hl : lv_has ls 13 [(0, .ref (AD 0)), (1, .ref (so)), (2, .int (x)), (3, .int (nI (lc))), (4, .int (nI (r))), (5, .int (1)), (6, .int (nI (k))), (7, .ref (ra k)), (8, .int (nI ((LL k).2.2))), (9, .int (nI (sg))), (10, .int (nI (pl)))]) : W p l e { frames := 9, cells := 7, slots := 220, locals := 150 } s m args below meth c s.heap [] 0 0 Q (F0 m 265 ls []) := by
  have S : CallFix p m c cL_act 13 s args wsL_act RL := ⟨hx, hb, hml, hown, hts⟩
  have hlc12 := hI.1
  have hec24 := hI.2.1
  have hBso : B ≤ so := hW0.2.1.1
  have hBla : B ≤ la := hW0.2.1.2.1
  have hB0B : B0 ≤ B := hJD.2.2
  have hlso := one_lt hW0.1.1
  have hlla := one_lt hW0.1.2.1
  have hle := hI.le hk
  have hOw0 := (hW0.2.2.1 k hk).1
  have hOw1 := (hW0.2.2.1 k hk).2
  have hOw2 := one_lt hOw0
  have iX4 : ∀ w ∈ u_ws RX4 TX4 2, w ∈ wsL_act := by decide +kernel
  have f9 := hts (.fieldLink RL 9 "LetterSealsLaw$Sim" "letters" "[[I") (by decide +kernel)
  have hC00 : CH nil_ s.heap s.heap := CH.rf
  have hS0 : va_S (fA (bA B0) s.heap.size) s.heap s.heap [] := va_S.rf
  obtain ⟨H, eH⟩ : ∃ H : Heap, H = s.heap := ⟨_, rfl⟩
  obtain ⟨locs, eL⟩ : ∃ L : List Loc, L = [] := ⟨_, rfl⟩
  have hC0 : CH nil_ s.heap H := by rw [eH]; exact hC00
  have hS : va_S (fA (bA B0) s.heap.size) s.heap H locs := by rw [eH, eL]; exact hS0
  suffices hgo : W p l e { frames := 9, cells := 7, slots := 220, locals := 150 } s m args below meth c H locs 0 0 Q (F0 m 265 ls []) by rw [eH, eL] at hgo; exact hgo
  clear hC00 hS0 eH eL
  have hW := hW0.keepN hC0
  have hDk := dk_kept hDk0 hC0 (fun _ _ z => z)
  have hZ := hZ0.kept hC0 (fun _ z => z.elim)
  have hOw := hC0.one hOw0 (fun z => z)
  refine lv_iload hx hb dL_act_265 (lv_at hl 8 rfl) ?_
  refine lv_bipush (v := nI (40)) hx hb dL_act_267 (by decide +kernel) ?_
  refine br_ge (a := (LL k).2.2) (b := 40) (tgt := 276) hx hb (by omega) (by omega) dL_act_269 (by decide) (fun c269 => ?_) (fun c269 => ?_)
  · refine lv_iconst (v := 0) hx hb dL_act_276 (by decide +kernel) ?_
    refine lv_istore (lv' := [(5, .int (0)), (0, .ref (AD 0)), (1, .ref (so)), (2, .int (x)), (3, .int (nI (lc))), (4, .int (nI (r))), (6, .int (nI (k))), (7, .ref (ra k)), (8, .int (nI ((LL k).2.2))), (9, .int (nI (sg))), (10, .int (nI (pl)))]) hx hb dL_act_277 hl (by decide) rfl (fun ls hl => ?_)
    refine lv_iload hx hb dL_act_279 (lv_at hl 0 rfl) ?_
    refine lv_if_eq (tgt := 298) hx hb dL_act_281 (by decide) (fun c281 => ?_) (fun c281 => ?_)
    · refine lv_aload_n hx hb dL_act_298 rfl (lv_at hl 1 rfl) ?_
      refine lv_iload hx hb dL_act_299 (lv_at hl 6 rfl) ?_
      refine lv_iload hx hb dL_act_301 (lv_at hl 9 rfl) ?_
      refine cx_V (E := "java/lang/IllegalStateException") (As := [.int (nI (k)), .int (nI (sg))]) (rest := []) S (c_X2_write_s l hlt g AD LL EE LN lc ec hI.1 hI.2.1 hI.hLL hI.hEE k hk (nI sg) (hs_ok sg hsg) (by omega)) (cwV 2 hts gL_act_X2_write rfl rfl rfl (by decide +kernel) ⟨Nat.le_of_ble_eq_true rfl, Nat.le_of_ble_eq_true rfl⟩) hK hZ.zz (va_recv hK.1 hDk (ci := 2) (q0 := 0) rfl dk_me) hDk hS rfl hl.1 rfl (Nat.le_of_ble_eq_true rfl) dL_act_303 ⟨by show _ ≤ 7; omega, by show _ ≤ 220; omega⟩ [⟨17, 69, 822, 82⟩, ⟨70, 264, 822, 82⟩] ⟨265, 323, 822, 82⟩ [⟨324, 419, 822, 82⟩, ⟨420, 426, 822, 82⟩, ⟨427, 520, 822, 82⟩, ⟨521, 527, 822, 82⟩, ⟨528, 622, 822, 82⟩, ⟨623, 684, 822, 82⟩, ⟨685, 734, 822, 82⟩, ⟨735, 813, 822, 82⟩, ⟨814, 821, 822, 82⟩] htab (fun z hz => Or.inl ((by decide : ∀ z ∈ ([⟨17, 69, 822, 82⟩, ⟨70, 264, 822, 82⟩] : List ExceptionTableEntry), covers z 303 = false) z hz)) (by decide) (by decide) (hts (.classLink RL 82 "java/lang/IllegalStateException") (by decide +kernel)) (List.mem_of_getElem? (i := 2) rfl) (fun H qx hC hS => ?_)
      have hDk := dk_kept hDk hC (fun _ _ z => z)
      have hZ := hZ.kept hC (fun _ z => z.elim)
      have hW := hW.keepN hC
      have hOw := hC.one hOw (fun z => z)
      refine lv_astore (lv' := [(6, .ref (qx)), (5, .int (0)), (0, .ref (AD 0)), (1, .ref (so)), (2, .int (x)), (3, .int (nI (lc))), (4, .int (nI (r))), (7, .ref (ra k)), (8, .int (nI ((LL k).2.2))), (9, .int (nI (sg))), (10, .int (nI (pl)))]) hx hb dL_act_822 hl (by decide) rfl (fun ls hl => ?_)
      refine lv_iload hx hb dL_act_824 (lv_at hl 1 rfl) ?_
      refine lv_if_ne (tgt := 833) hx hb dL_act_826 (by decide) (fun c826 => ?_) (fun c826 => ?_)
      · exact absurd rfl c826
      · refine lv_iconst (v := 1) hx hb dL_act_829 (by decide +kernel) ?_
        refine lv_goto (tgt := 834) hx hb dL_act_830 (by decide) ?_
        have hI2 := hI
        exact W.widen (by show _ ≤ 7; omega) (by show _ ≤ 220; omega) (hret _ _ _ _ _ _ _ _ _ _ _ _ _ _ _ ⟨hI2, hDk, hW⟩ (by omega) (by omega) hS dL_act_834)
    · exact absurd rfl c281
  · refine lv_iconst (v := 1) hx hb dL_act_272 (by decide +kernel) ?_
    refine lv_goto (tgt := 277) hx hb dL_act_273 (by decide) ?_
    refine lv_istore (lv' := [(5, .int (1)), (0, .ref (AD 0)), (1, .ref (so)), (2, .int (x)), (3, .int (nI (lc))), (4, .int (nI (r))), (6, .int (nI (k))), (7, .ref (ra k)), (8, .int (nI ((LL k).2.2))), (9, .int (nI (sg))), (10, .int (nI (pl)))]) hx hb dL_act_277 hl (by decide) rfl (fun ls hl => ?_)
    refine lv_iload hx hb dL_act_279 (lv_at hl 0 rfl) ?_
    refine lv_if_eq (tgt := 298) hx hb dL_act_281 (by decide) (fun c281 => ?_) (fun c281 => ?_)
    · exact absurd c281 (by decide +kernel)
    · refine lv_aload_n hx hb dL_act_284 rfl (lv_at hl 2 rfl) ?_
      refine va_get (D := gD g) (ci := 4) (v := .ref (la)) (C := RX4) (T := TX4) (N := 2) hx hb hts iX4 hown hK.1 hW.1.1 0 rfl rfl 0 (by decide) f9 (fun _ h9 => h9) rfl dL_act_285 ?_
      refine lv_iload hx hb dL_act_288 (lv_at hl 6 rfl) ?_
      refine lv_aload hx hb dL_act_290 (lv_at hl 7 rfl) ?_
      refine lv_iload hx hb dL_act_292 (lv_at hl 9 rfl) ?_
      have hsz9 := hS.1
      refine n_S (As := [.ref (ra k), .int (nI (sg))]) (rest := [.int (nI (k)), .ref (la)]) S (c_X4_with l g H.size (ra k) (LL k).1 (LL k).2.2 (nI (sg)) (by omega)) (va_cwS 2 hts gL_act_X4_with rfl rfl rfl (by decide +kernel) ⟨Nat.le_of_ble_eq_true rfl, Nat.le_of_ble_eq_true rfl⟩) hK hOw hS (fun q z => z.elim) (fun q hq => Or.inr hq) rfl hl.1 rfl (Nat.le_of_ble_eq_true rfl) dL_act_294 ⟨by show _ ≤ 7; omega, by show _ ≤ 220; omega⟩ (fun v H locs hpost hC hS => ?_)
      obtain ⟨X0, rfl, lX9, hX0⟩ := hpost
      have lX0 : s.heap.size ≤ X0 := Nat.le_trans hsz9 lX9
      have hC0 := hC0.trans hC
      have hW := hW0.keepN hC0
      have hDk := dk_kept hDk0 hC0 (fun _ _ z => z)
      have hZ := hZ0.kept hC0 (fun _ z => z.elim)
      have hOw := hC0.one hOw0 (fun z => z)
      have hX9 := hX0
      have hlX := one_lt hX9
      refine pt_A (k := k) (n := lc) (f := fun i => some (ra i)) hx hb hK hW.1.2.1 hX9 hS (Or.inl (show B0 ≤ la by omega)) (by omega) (by omega) dL_act_297 (fun H locs hla hC hS => ?_)
      have hW := SW.set (w := (LL k).2.1) hW hC hX9 (by omega) (by omega) (by omega) hla
      have hDk := dk_kept hDk hC (fun k9 hk9 z => by have := hJD.2.1 k9 hk9; omega)
      have hZ := hZ.kept hC (fun q z => by subst z; omega)
      have hOw := hC.one hOw (by omega)
      refine lv_aload_n hx hb dL_act_298 rfl (lv_at hl 1 rfl) ?_
      refine lv_iload hx hb dL_act_299 (lv_at hl 6 rfl) ?_
      refine lv_iload hx hb dL_act_301 (lv_at hl 9 rfl) ?_
      refine w_V (As := [.int (nI (k)), .int (nI (sg))]) (rest := []) S (c_X2_write l g AD LL EE LN lc ec hI.1 hI.2.1 hI.hLL hI.hEE k hk (nI sg) (hs_ok sg hsg) (by omega)) (cwV 2 hts gL_act_X2_write rfl rfl rfl (by decide +kernel) ⟨Nat.le_of_ble_eq_true rfl, Nat.le_of_ble_eq_true rfl⟩) hK (va_recv hK.1 hDk (ci := 2) (q0 := 0) rfl dk_me) hDk hJD.D hS (fun q hq => Or.inl (hJD.wA hq).1) rfl hl.1 rfl (Nat.le_of_ble_eq_true rfl) dL_act_303 ⟨by show _ ≤ 7; omega, by show _ ≤ 220; omega⟩ (fun H locs hDk hz1 hk1 hS => ?_)
      have hC : CH (wA (wsD g AD LL EE lc ec)) _ H := ⟨hz1, hk1⟩
      have hZ := hZ.kept hC (fun q z => (hJD.wA z).1)
      have hW := hW.keep hC (fun q h1 _ h2 => by have := hJD.wA h2; omega)
      have hOw := hC.one hOw (fun h2 => by have := hJD.wA h2; omega)
      refine lv_iload hx hb dL_act_306 (lv_at hl 8 rfl) ?_
      refine lv_iconst (v := nI (1)) hx hb dL_act_308 (by decide +kernel) ?_
      refine lv_iadd hx hb dL_act_309 ?_
      refine lv_toI (z := nI ((LL k).2.2 + 1)) (nI_add _ _) ?_
      refine br_ne (a := (LL k).2.2 + 1) (b := (LL k).2.2 + 1) (tgt := 322) hx hb (by omega) (by omega) dL_act_310 (by decide) (fun c310 => ?_) (fun c310 => ?_)
      · exact absurd rfl c310
      · refine lv_iload hx hb dL_act_313 (lv_at hl 0 rfl) ?_
        refine lv_if_eq (tgt := 322) hx hb dL_act_315 (by decide) (fun c315 => ?_) (fun c315 => ?_)
        · exact absurd c315 (by decide +kernel)
        · refine lv_iconst (v := 1) hx hb dL_act_318 (by decide +kernel) ?_
          refine lv_goto (tgt := 323) hx hb dL_act_319 (by decide) ?_
          have hI2 := hI.set (k := k) (lc2 := lc) (f := upd (LL k).1 (LL k).2.2 (nI (sg))) (w := (LL k).2.1) (n := (LL k).2.2 + 1) (Nat.le_refl _) hI.1 hk (Or.inl rfl) (by omega) (sg_upd (hI.sg hk) (by omega) (Or.inr ⟨rfl, rfl⟩))
          exact W.widen (by show _ ≤ 7; omega) (by show _ ≤ 220; omega) (hret _ _ _ _ _ _ _ _ _ _ _ _ _ _ _ ⟨hI2, hDk, hW⟩ (by omega) (by omega) hS dL_act_323)

set_option maxHeartbeats 4000000 in
set_option maxRecDepth 100000 in
/-- a sign less -/
theorem act_324 {p : Program} {e : Env} {s : State} {m : MethodId} {args : Array Value} {below : List Frame} {meth : Method} {c : Code} {Q : State → Prop} (l : Launch) (hlt : l.stackTraces = false) (g : gT) {B0 B so : Nat} {AD : Nat → Nat} {LL : Nat → ltT} {EE : Nat → evT} {LN : Nat → Nat} {TT : Nat → (Nat → Int32) × Nat} {lc ec la ea : Nat} {ra xa ta : Nat → Nat} {x : Int32} (hx : p.tables.exec = Jvm.exec) (hb : c.code = cL_act) (hml : c.maxLocals = 13) (hts : ∀ w ∈ wsL_act, w.before args s = true) (hown : s.vm.findClass RL = some m.cls) (hK : KK g s) (hZ0 : ZB B0 s s.heap) (htab : c.exceptionTable.toList = tableOf [(17, 69, 822, 82), (70, 264, 822, 82), (265, 323, 822, 82), (324, 419, 822, 82), (420, 426, 822, 82), (427, 520, 822, 82), (521, 527, 822, 82), (528, 622, 822, 82), (623, 684, 822, 82), (685, 734, 822, 82), (735, 813, 822, 82), (814, 821, 822, 82)]) (hJD : JD B0 B AD) (hBH : B ≤ s.heap.size) (hI : Iv LL EE LN TT lc ec) (hDk0 : va_P (gD g) vwCl (wsD g AD LL EE lc ec) s.heap) (hW0 : SW g B so la ea ra xa ta LL EE TT lc ec s.heap)
    (hret : ∀ (pc : Nat) (ls : Array Slot) (H : Heap) (locs : List Loc) (LL2 : Nat → ltT) (EE2 : Nat → evT) (LN2 : Nat → Nat) (TT2 : Nat → (Nat → Int32) × Nat) (lc2 ec2 la2 ea2 : Nat) (ra2 xa2 ta2 : Nat → Nat), JW g B AD so LL2 EE2 LN2 TT2 lc2 ec2 la2 ea2 ra2 xa2 ta2 H → lc ≤ lc2 → 1 ≤ lc2 → va_S (fA (bA B0) s.heap.size) s.heap H locs → decode cL_act pc = .ok (.ireturn, 1) → W p l e { frames := 9, cells := 7, slots := 220, locals := 150 } s m args below meth c H locs 7 220 Q (F0 m pc ls [.int 1]))
    {r k sg pl : Nat} (hr : r < 18) (hk : k < lc) (hsg : sg < 30) (hpl : pl < (LL k).2.2 ∨ ((LL k).2.2 = 0 ∧ pl = 0)) (ls : Array Slot) (hl : lv_has ls 13 [(0, .ref (AD 0)), (1, .ref (so)), (2, .int (x)), (3, .int (nI (lc))), (4, .int (nI (r))), (5, .int (1)), (6, .int (nI (k))), (7, .ref (ra k)), (8, .int (nI ((LL k).2.2))), (9, .int (nI (sg))), (10, .int (nI (pl)))]) : W p l e { frames := 9, cells := 7, slots := 220, locals := 150 } s m args below meth c s.heap [] 0 0 Q (F0 m 324 ls []) := by
  have S : CallFix p m c cL_act 13 s args wsL_act RL := ⟨hx, hb, hml, hown, hts⟩
  have hlc12 := hI.1
  have hec24 := hI.2.1
  have hBso : B ≤ so := hW0.2.1.1
  have hBla : B ≤ la := hW0.2.1.2.1
  have hB0B : B0 ≤ B := hJD.2.2
  have hlso := one_lt hW0.1.1
  have hlla := one_lt hW0.1.2.1
  have hle := hI.le hk
  have hOw0 := (hW0.2.2.1 k hk).1
  have hOw1 := (hW0.2.2.1 k hk).2
  have hOw2 := one_lt hOw0
  have iX4 : ∀ w ∈ u_ws RX4 TX4 2, w ∈ wsL_act := by decide +kernel
  have f9 := hts (.fieldLink RL 9 "LetterSealsLaw$Sim" "letters" "[[I") (by decide +kernel)
  have hC00 : CH nil_ s.heap s.heap := CH.rf
  have hS0 : va_S (fA (bA B0) s.heap.size) s.heap s.heap [] := va_S.rf
  obtain ⟨H, eH⟩ : ∃ H : Heap, H = s.heap := ⟨_, rfl⟩
  obtain ⟨locs, eL⟩ : ∃ L : List Loc, L = [] := ⟨_, rfl⟩
  have hC0 : CH nil_ s.heap H := by rw [eH]; exact hC00
  have hS : va_S (fA (bA B0) s.heap.size) s.heap H locs := by rw [eH, eL]; exact hS0
  suffices hgo : W p l e { frames := 9, cells := 7, slots := 220, locals := 150 } s m args below meth c H locs 0 0 Q (F0 m 324 ls []) by rw [eH, eL] at hgo; exact hgo
  clear hC00 hS0 eH eL
  have hW := hW0.keepN hC0
  have hDk := dk_kept hDk0 hC0 (fun _ _ z => z)
  have hZ := hZ0.kept hC0 (fun _ z => z.elim)
  have hOw := hC0.one hOw0 (fun z => z)
  refine lv_iload hx hb dL_act_324 (lv_at hl 8 rfl) ?_
  refine br_le0 (a := (LL k).2.2) (tgt := 333) hx hb (by omega) dL_act_326 (by decide) (fun c326 => ?_) (fun c326 => ?_)
  · refine lv_iconst (v := 0) hx hb dL_act_333 (by decide +kernel) ?_
    refine lv_istore (lv' := [(5, .int (0)), (0, .ref (AD 0)), (1, .ref (so)), (2, .int (x)), (3, .int (nI (lc))), (4, .int (nI (r))), (6, .int (nI (k))), (7, .ref (ra k)), (8, .int (nI ((LL k).2.2))), (9, .int (nI (sg))), (10, .int (nI (pl)))]) hx hb dL_act_334 hl (by decide) rfl (fun ls hl => ?_)
    refine lv_iconst (v := nI (0)) hx hb dL_act_336 (by decide +kernel) ?_
    refine lv_iload hx hb dL_act_337 (lv_at hl 8 rfl) ?_
    refine lv_iconst (v := 1) hx hb dL_act_339 (by decide +kernel) ?_
    refine lv_isub hx hb dL_act_340 ?_
    refine va_mmax (rest := []) hx hb (hml.trans hl.1.symm) hown (hts (.methodLink RL 42 Lib.Math.max.name) (by decide +kernel)) (hts (.static Lib.Math.max.name) (by decide +kernel)) (hts (.initialized "java/lang/Math") (by decide +kernel)) (hts (.code Lib.Math.max.name Lib.Math.max.code 2 (some .int)) (by decide +kernel)) (Nat.le_of_ble_eq_true rfl) (Nat.le_of_ble_eq_true rfl) (by show _ ≤ 7; omega) (by show _ ≤ 220; omega) dL_act_341 ?_
    refine lv_toI (z := nI ((LL k).2.2 - 1)) (mx_ok _ (by omega)) ?_
    refine nw_I (n := (LL k).2.2 - 1) hx hb (hts (.arrayClass .int) (by decide +kernel)) hK hS (by omega) (by show _ ≤ 7; omega) (by show _ ≤ 220; omega) dL_act_344 (fun X0 H hq hX0 hC hS => ?_)
    have lX0 : s.heap.size ≤ X0 := Nat.le_trans hC0.1 hq
    have hC0 := hC0.trans hC
    have hW := hW0.keepN hC0
    have hDk := dk_kept hDk0 hC0 (fun _ _ z => z)
    have hZ := hZ0.kept hC0 (fun _ z => z.elim)
    have hOw := hC0.one hOw0 (fun z => z)
    refine lv_astore (lv' := [(11, .ref (X0)), (5, .int (0)), (0, .ref (AD 0)), (1, .ref (so)), (2, .int (x)), (3, .int (nI (lc))), (4, .int (nI (r))), (6, .int (nI (k))), (7, .ref (ra k)), (8, .int (nI ((LL k).2.2))), (9, .int (nI (sg))), (10, .int (nI (pl)))]) hx hb dL_act_346 hl (by decide) rfl (fun ls hl => ?_)
    refine lv_iconst (v := nI (0)) hx hb dL_act_348 (by decide +kernel) ?_
    refine lv_istore (lv' := [(12, .int (nI (0))), (11, .ref (X0)), (5, .int (0)), (0, .ref (AD 0)), (1, .ref (so)), (2, .int (x)), (3, .int (nI (lc))), (4, .int (nI (r))), (6, .int (nI (k))), (7, .ref (ra k)), (8, .int (nI ((LL k).2.2))), (9, .int (nI (sg))), (10, .int (nI (pl)))]) hx hb dL_act_349 hl (by decide) rfl (fun ls hl => ?_)
    have L351 : ∀ (k1 i : Nat) (H : Heap) (locs : List Loc) (ls : Array Slot), ((LL k).2.2 - 1) - i < k1 → i ≤ ((LL k).2.2 - 1) → CH nil_ s.heap H → va_P (gD g) vwCl (rwW g X0 (flF (fun _ => 0) (LL k).1 i) ((LL k).2.2 - 1)) H → va_S (fA (bA B0) s.heap.size) s.heap H locs → lv_has ls 13 [(12, .int (nI i)), (11, .ref (X0)), (5, .int (0)), (0, .ref (AD 0)), (1, .ref (so)), (2, .int (x)), (3, .int (nI (lc))), (4, .int (nI (r))), (6, .int (nI (k))), (7, .ref (ra k)), (8, .int (nI ((LL k).2.2))), (9, .int (nI (sg))), (10, .int (nI (pl)))] → W p l e { frames := 9, cells := 7, slots := 220, locals := 150 } s m args below meth c H locs (0 + 1) (0 + ((LL k).2.2 - 1)) Q (F0 m 351 ls []) := by
      intro k1
      induction k1 with
      | zero => intro i H locs ls hFu; exact absurd hFu (Nat.not_lt_zero _)
      | succ k1 ih1 =>
        intro i H locs ls hFu hLe hC0 hX0 hS hl
        have hW := hW0.keepN hC0
        have hDk := dk_kept hDk0 hC0 (fun _ _ z => z)
        have hZ := hZ0.kept hC0 (fun _ z => z.elim)
        have hOw := hC0.one hOw0 (fun z => z)
        refine lv_iload hx hb dL_act_351 (lv_at hl 0 rfl) ?_
        refine lv_aload hx hb dL_act_353 (lv_at hl 1 rfl) ?_
        refine va_alen (v := nI ((LL k).2.2 - 1)) hx hb hK.1 hX0 0 0 rfl (ht := (rfl : (gTy g)[0]? = _)) rfl dL_act_355 ?_
        refine br_ge (a := i) (b := (LL k).2.2 - 1) (tgt := 375) hx hb (by omega) (by omega) dL_act_356 (by decide) (fun c356 => ?_) (fun c356 => ?_)
        · obtain rfl : ((LL k).2.2 - 1) = i := by omega
          refine lv_aload_n hx hb dL_act_375 rfl (lv_at hl 4 rfl) ?_
          refine va_get (D := gD g) (ci := 4) (v := .ref (la)) (C := RX4) (T := TX4) (N := 2) hx hb hts iX4 hown hK.1 hW.1.1 0 rfl rfl 0 (by decide) f9 (fun _ h9 => h9) rfl dL_act_376 ?_
          refine lv_iload hx hb dL_act_379 (lv_at hl 8 rfl) ?_
          refine lv_aload hx hb dL_act_381 (lv_at hl 1 rfl) ?_
          have hX9 := hX0
          have hlX := one_lt hX9
          refine pt_A (k := k) (n := lc) (f := fun i => some (ra i)) hx hb hK hW.1.2.1 hX9 hS (Or.inl (show B0 ≤ la by omega)) (by omega) (by omega) dL_act_383 (fun H locs hla hC hS => ?_)
          have hW := SW.set (w := (LL k).2.1) hW hC hX9 (by omega) (by omega) (by omega) hla
          have hDk := dk_kept hDk hC (fun k9 hk9 z => by have := hJD.2.1 k9 hk9; omega)
          have hZ := hZ.kept hC (fun q z => by subst z; omega)
          have hOw := hC.one hOw (by omega)
          refine lv_aload_n hx hb dL_act_384 rfl (lv_at hl 3 rfl) ?_
          refine lv_iload hx hb dL_act_385 (lv_at hl 8 rfl) ?_
          refine cx_V (E := "java/lang/IllegalStateException") (As := [.int (nI (k))]) (rest := []) S (c_X2_erase_s l hlt g AD LL EE LN lc ec hI.1 hI.2.1 hI.hLL hI.hEE k hk (by omega)) (cwV 1 hts gL_act_X2_erase rfl rfl rfl (by decide +kernel) ⟨Nat.le_of_ble_eq_true rfl, Nat.le_of_ble_eq_true rfl⟩) hK hZ.zz (va_recv hK.1 hDk (ci := 2) (q0 := 0) rfl dk_me) hDk hS rfl hl.1 rfl (Nat.le_of_ble_eq_true rfl) dL_act_387 ⟨by show _ ≤ 7; omega, by show _ ≤ 220; omega⟩ [⟨17, 69, 822, 82⟩, ⟨70, 264, 822, 82⟩, ⟨265, 323, 822, 82⟩] ⟨324, 419, 822, 82⟩ [⟨420, 426, 822, 82⟩, ⟨427, 520, 822, 82⟩, ⟨521, 527, 822, 82⟩, ⟨528, 622, 822, 82⟩, ⟨623, 684, 822, 82⟩, ⟨685, 734, 822, 82⟩, ⟨735, 813, 822, 82⟩, ⟨814, 821, 822, 82⟩] htab (fun z hz => Or.inl ((by decide : ∀ z ∈ ([⟨17, 69, 822, 82⟩, ⟨70, 264, 822, 82⟩, ⟨265, 323, 822, 82⟩] : List ExceptionTableEntry), covers z 387 = false) z hz)) (by decide) (by decide) (hts (.classLink RL 82 "java/lang/IllegalStateException") (by decide +kernel)) (List.mem_of_getElem? (i := 2) rfl) (fun H qx hC hS => ?_)
          have hDk := dk_kept hDk hC (fun _ _ z => z)
          have hZ := hZ.kept hC (fun _ z => z.elim)
          have hW := hW.keepN hC
          have hOw := hC.one hOw (fun z => z)
          refine lv_astore (lv' := [(6, .ref (qx)), (12, .int (nI ((LL k).2.2 - 1))), (11, .ref (X0)), (5, .int (0)), (0, .ref (AD 0)), (1, .ref (so)), (2, .int (x)), (3, .int (nI (lc))), (4, .int (nI (r))), (7, .ref (ra k)), (8, .int (nI ((LL k).2.2))), (9, .int (nI (sg))), (10, .int (nI (pl)))]) hx hb dL_act_822 hl (by decide) rfl (fun ls hl => ?_)
          refine lv_iload hx hb dL_act_824 (lv_at hl 3 rfl) ?_
          refine lv_if_ne (tgt := 833) hx hb dL_act_826 (by decide) (fun c826 => ?_) (fun c826 => ?_)
          · exact absurd rfl c826
          · refine lv_iconst (v := 1) hx hb dL_act_829 (by decide +kernel) ?_
            refine lv_goto (tgt := 834) hx hb dL_act_830 (by decide) ?_
            have hI2 := hI
            have hW := hW.lets (lets_id (by omega) (fun j hj => by omega))
            exact W.widen (by show _ ≤ 7; omega) (by show _ ≤ 220; omega) (hret _ _ _ _ _ _ _ _ _ _ _ _ _ _ _ ⟨hI2, hDk, hW⟩ (by omega) (by omega) hS dL_act_834)
        · refine lv_aload hx hb dL_act_359 (lv_at hl 1 rfl) ?_
          refine lv_iload hx hb dL_act_361 (lv_at hl 0 rfl) ?_
          refine lv_aload hx hb dL_act_363 (lv_at hl 9 rfl) ?_
          refine lv_iload hx hb dL_act_365 (lv_at hl 0 rfl) ?_
          refine ld_I (k := i) (n := (LL k).2.2) (f := (LL k).1) hx hb hK.1 hOw 0 rfl (by omega) (by omega) dL_act_367 ?_
          refine pt_I (k := i) (n := (LL k).2.2 - 1) (f := flF (fun _ => 0) (LL k).1 i) (x := ((LL k).1) (i)) hx hb hK hX0 hS (Or.inr lX0) (by omega) (by omega) dL_act_368 (fun H locs hX0 hC hS => ?_)
          have hC0 : CH nil_ s.heap H := hC0.step hC lX0
          have hW := hW0.keepN hC0
          have hDk := dk_kept hDk0 hC0 (fun _ _ z => z)
          have hZ := hZ0.kept hC0 (fun _ z => z.elim)
          have hOw := hC0.one hOw0 (fun z => z)
          refine lv_iinc (v := nI (i + 1)) (lv' := [(12, .int (nI (i + 1))), (11, .ref (X0)), (5, .int (0)), (0, .ref (AD 0)), (1, .ref (so)), (2, .int (x)), (3, .int (nI (lc))), (4, .int (nI (r))), (6, .int (nI (k))), (7, .ref (ra k)), (8, .int (nI ((LL k).2.2))), (9, .int (nI (sg))), (10, .int (nI (pl)))]) hx hb dL_act_369 hl (k := 0) rfl (nI_1 _) (by decide) rfl (fun ls hl => ?_)
          refine lv_goto (tgt := 351) hx hb dL_act_372 (by decide) ?_
          exact ih1 (i + 1) H _ _ (by omega) (by omega) hC0 (by rw [flF_up]; exact hX0) hS (lv_sub hl [0, 1, 2, 3, 4, 5, 6, 7, 8, 9, 10, 11, 12] rfl)
    exact L351 (((LL k).2.2 - 1) + 1) (0) H _ _ (by omega) (by omega) hC0 (by rw [flF_0]; exact hX0) hS (lv_sub hl [0, 1, 2, 3, 4, 5, 6, 7, 8, 9, 10, 11, 12] rfl)
  · refine lv_iconst (v := 1) hx hb dL_act_329 (by decide +kernel) ?_
    refine lv_goto (tgt := 334) hx hb dL_act_330 (by decide) ?_
    refine lv_istore (lv' := [(5, .int (1)), (0, .ref (AD 0)), (1, .ref (so)), (2, .int (x)), (3, .int (nI (lc))), (4, .int (nI (r))), (6, .int (nI (k))), (7, .ref (ra k)), (8, .int (nI ((LL k).2.2))), (9, .int (nI (sg))), (10, .int (nI (pl)))]) hx hb dL_act_334 hl (by decide) rfl (fun ls hl => ?_)
    refine lv_iconst (v := nI (0)) hx hb dL_act_336 (by decide +kernel) ?_
    refine lv_iload hx hb dL_act_337 (lv_at hl 8 rfl) ?_
    refine lv_iconst (v := 1) hx hb dL_act_339 (by decide +kernel) ?_
    refine lv_isub hx hb dL_act_340 ?_
    refine va_mmax (rest := []) hx hb (hml.trans hl.1.symm) hown (hts (.methodLink RL 42 Lib.Math.max.name) (by decide +kernel)) (hts (.static Lib.Math.max.name) (by decide +kernel)) (hts (.initialized "java/lang/Math") (by decide +kernel)) (hts (.code Lib.Math.max.name Lib.Math.max.code 2 (some .int)) (by decide +kernel)) (Nat.le_of_ble_eq_true rfl) (Nat.le_of_ble_eq_true rfl) (by show _ ≤ 7; omega) (by show _ ≤ 220; omega) dL_act_341 ?_
    refine lv_toI (z := nI ((LL k).2.2 - 1)) (mx_ok _ (by omega)) ?_
    refine nw_I (n := (LL k).2.2 - 1) hx hb (hts (.arrayClass .int) (by decide +kernel)) hK hS (by omega) (by show _ ≤ 7; omega) (by show _ ≤ 220; omega) dL_act_344 (fun X0 H hq hX0 hC hS => ?_)
    have lX0 : s.heap.size ≤ X0 := Nat.le_trans hC0.1 hq
    have hC0 := hC0.trans hC
    have hW := hW0.keepN hC0
    have hDk := dk_kept hDk0 hC0 (fun _ _ z => z)
    have hZ := hZ0.kept hC0 (fun _ z => z.elim)
    have hOw := hC0.one hOw0 (fun z => z)
    refine lv_astore (lv' := [(11, .ref (X0)), (5, .int (1)), (0, .ref (AD 0)), (1, .ref (so)), (2, .int (x)), (3, .int (nI (lc))), (4, .int (nI (r))), (6, .int (nI (k))), (7, .ref (ra k)), (8, .int (nI ((LL k).2.2))), (9, .int (nI (sg))), (10, .int (nI (pl)))]) hx hb dL_act_346 hl (by decide) rfl (fun ls hl => ?_)
    refine lv_iconst (v := nI (0)) hx hb dL_act_348 (by decide +kernel) ?_
    refine lv_istore (lv' := [(12, .int (nI (0))), (11, .ref (X0)), (5, .int (1)), (0, .ref (AD 0)), (1, .ref (so)), (2, .int (x)), (3, .int (nI (lc))), (4, .int (nI (r))), (6, .int (nI (k))), (7, .ref (ra k)), (8, .int (nI ((LL k).2.2))), (9, .int (nI (sg))), (10, .int (nI (pl)))]) hx hb dL_act_349 hl (by decide) rfl (fun ls hl => ?_)
    have L351 : ∀ (k2 i : Nat) (H : Heap) (locs : List Loc) (ls : Array Slot), ((LL k).2.2 - 1) - i < k2 → i ≤ ((LL k).2.2 - 1) → CH nil_ s.heap H → va_P (gD g) vwCl (rwW g X0 (flF (fun _ => 0) (LL k).1 i) ((LL k).2.2 - 1)) H → va_S (fA (bA B0) s.heap.size) s.heap H locs → lv_has ls 13 [(12, .int (nI i)), (11, .ref (X0)), (5, .int (1)), (0, .ref (AD 0)), (1, .ref (so)), (2, .int (x)), (3, .int (nI (lc))), (4, .int (nI (r))), (6, .int (nI (k))), (7, .ref (ra k)), (8, .int (nI ((LL k).2.2))), (9, .int (nI (sg))), (10, .int (nI (pl)))] → W p l e { frames := 9, cells := 7, slots := 220, locals := 150 } s m args below meth c H locs (0 + 1) (0 + ((LL k).2.2 - 1)) Q (F0 m 351 ls []) := by
      intro k2
      induction k2 with
      | zero => intro i H locs ls hFu; exact absurd hFu (Nat.not_lt_zero _)
      | succ k2 ih2 =>
        intro i H locs ls hFu hLe hC0 hX0 hS hl
        have hW := hW0.keepN hC0
        have hDk := dk_kept hDk0 hC0 (fun _ _ z => z)
        have hZ := hZ0.kept hC0 (fun _ z => z.elim)
        have hOw := hC0.one hOw0 (fun z => z)
        refine lv_iload hx hb dL_act_351 (lv_at hl 0 rfl) ?_
        refine lv_aload hx hb dL_act_353 (lv_at hl 1 rfl) ?_
        refine va_alen (v := nI ((LL k).2.2 - 1)) hx hb hK.1 hX0 0 0 rfl (ht := (rfl : (gTy g)[0]? = _)) rfl dL_act_355 ?_
        refine br_ge (a := i) (b := (LL k).2.2 - 1) (tgt := 375) hx hb (by omega) (by omega) dL_act_356 (by decide) (fun c356 => ?_) (fun c356 => ?_)
        · obtain rfl : ((LL k).2.2 - 1) = i := by omega
          refine lv_aload_n hx hb dL_act_375 rfl (lv_at hl 4 rfl) ?_
          refine va_get (D := gD g) (ci := 4) (v := .ref (la)) (C := RX4) (T := TX4) (N := 2) hx hb hts iX4 hown hK.1 hW.1.1 0 rfl rfl 0 (by decide) f9 (fun _ h9 => h9) rfl dL_act_376 ?_
          refine lv_iload hx hb dL_act_379 (lv_at hl 8 rfl) ?_
          refine lv_aload hx hb dL_act_381 (lv_at hl 1 rfl) ?_
          have hX9 := hX0
          have hlX := one_lt hX9
          refine pt_A (k := k) (n := lc) (f := fun i => some (ra i)) hx hb hK hW.1.2.1 hX9 hS (Or.inl (show B0 ≤ la by omega)) (by omega) (by omega) dL_act_383 (fun H locs hla hC hS => ?_)
          have hW := SW.set (w := (LL k).2.1) hW hC hX9 (by omega) (by omega) (by omega) hla
          have hDk := dk_kept hDk hC (fun k9 hk9 z => by have := hJD.2.1 k9 hk9; omega)
          have hZ := hZ.kept hC (fun q z => by subst z; omega)
          have hOw := hC.one hOw (by omega)
          refine lv_aload_n hx hb dL_act_384 rfl (lv_at hl 3 rfl) ?_
          refine lv_iload hx hb dL_act_385 (lv_at hl 8 rfl) ?_
          refine w_V (As := [.int (nI (k))]) (rest := []) S (c_X2_erase l g AD LL EE LN lc ec hI.1 hI.2.1 hI.hLL hI.hEE k hk (by omega)) (cwV 1 hts gL_act_X2_erase rfl rfl rfl (by decide +kernel) ⟨Nat.le_of_ble_eq_true rfl, Nat.le_of_ble_eq_true rfl⟩) hK (va_recv hK.1 hDk (ci := 2) (q0 := 0) rfl dk_me) hDk hJD.D hS (fun q hq => Or.inl (hJD.wA hq).1) rfl hl.1 rfl (Nat.le_of_ble_eq_true rfl) dL_act_387 ⟨by show _ ≤ 7; omega, by show _ ≤ 220; omega⟩ (fun H locs hDk hz1 hk1 hS => ?_)
          have hC : CH (wA (wsD g AD LL EE lc ec)) _ H := ⟨hz1, hk1⟩
          have hZ := hZ.kept hC (fun q z => (hJD.wA z).1)
          have hW := hW.keep hC (fun q h1 _ h2 => by have := hJD.wA h2; omega)
          have hOw := hC.one hOw (fun h2 => by have := hJD.wA h2; omega)
          refine lv_iload hx hb dL_act_390 (lv_at hl 2 rfl) ?_
          refine lv_if_eq (tgt := 405) hx hb dL_act_392 (by decide) (fun c392 => ?_) (fun c392 => ?_)
          · exact absurd c392 (by decide +kernel)
          · refine lv_aload hx hb dL_act_395 (lv_at hl 9 rfl) ?_
            refine lv_iload hx hb dL_act_397 (lv_at hl 10 rfl) ?_
            refine lv_iconst (v := nI (1)) hx hb dL_act_399 (by decide +kernel) ?_
            refine lv_isub hx hb dL_act_400 ?_
            refine lv_toI (z := nI ((LL k).2.2 - 1)) (pk_sub (by omega)) ?_
            refine ld_I (k := (LL k).2.2 - 1) (n := (LL k).2.2) (f := (LL k).1) hx hb hK.1 hOw 0 rfl (by omega) (by omega) dL_act_401 ?_
            refine lv_goto (tgt := 406) hx hb dL_act_402 (by decide) ?_
            refine lv_icmp_ne (tgt := 418) hx hb dL_act_406 (by decide) (fun c406 => ?_) (fun c406 => ?_)
            · exact absurd rfl c406
            · refine lv_iload hx hb dL_act_409 (lv_at hl 2 rfl) ?_
              refine lv_if_eq (tgt := 418) hx hb dL_act_411 (by decide) (fun c411 => ?_) (fun c411 => ?_)
              · exact absurd c411 (by decide +kernel)
              · refine lv_iconst (v := 1) hx hb dL_act_414 (by decide +kernel) ?_
                refine lv_goto (tgt := 419) hx hb dL_act_415 (by decide) ?_
                have hI2 := hI.set (k := k) (lc2 := lc) (f := (LL k).1) (w := (LL k).2.1) (n := (LL k).2.2 - 1) (Nat.le_refl _) hI.1 hk (Or.inl rfl) (by omega) (fun j hj => hI.sg hk j (by omega))
                have hW := hW.lets (lets_one (f2 := (LL k).1) (w2 := (LL k).2.1) (fun j hj => flF_in hj))
                exact W.widen (by show _ ≤ 7; omega) (by show _ ≤ 220; omega) (hret _ _ _ _ _ _ _ _ _ _ _ _ _ _ _ ⟨hI2, hDk, hW⟩ (by omega) (by omega) hS dL_act_419)
        · refine lv_aload hx hb dL_act_359 (lv_at hl 1 rfl) ?_
          refine lv_iload hx hb dL_act_361 (lv_at hl 0 rfl) ?_
          refine lv_aload hx hb dL_act_363 (lv_at hl 9 rfl) ?_
          refine lv_iload hx hb dL_act_365 (lv_at hl 0 rfl) ?_
          refine ld_I (k := i) (n := (LL k).2.2) (f := (LL k).1) hx hb hK.1 hOw 0 rfl (by omega) (by omega) dL_act_367 ?_
          refine pt_I (k := i) (n := (LL k).2.2 - 1) (f := flF (fun _ => 0) (LL k).1 i) (x := ((LL k).1) (i)) hx hb hK hX0 hS (Or.inr lX0) (by omega) (by omega) dL_act_368 (fun H locs hX0 hC hS => ?_)
          have hC0 : CH nil_ s.heap H := hC0.step hC lX0
          have hW := hW0.keepN hC0
          have hDk := dk_kept hDk0 hC0 (fun _ _ z => z)
          have hZ := hZ0.kept hC0 (fun _ z => z.elim)
          have hOw := hC0.one hOw0 (fun z => z)
          refine lv_iinc (v := nI (i + 1)) (lv' := [(12, .int (nI (i + 1))), (11, .ref (X0)), (5, .int (1)), (0, .ref (AD 0)), (1, .ref (so)), (2, .int (x)), (3, .int (nI (lc))), (4, .int (nI (r))), (6, .int (nI (k))), (7, .ref (ra k)), (8, .int (nI ((LL k).2.2))), (9, .int (nI (sg))), (10, .int (nI (pl)))]) hx hb dL_act_369 hl (k := 0) rfl (nI_1 _) (by decide) rfl (fun ls hl => ?_)
          refine lv_goto (tgt := 351) hx hb dL_act_372 (by decide) ?_
          exact ih2 (i + 1) H _ _ (by omega) (by omega) hC0 (by rw [flF_up]; exact hX0) hS (lv_sub hl [0, 1, 2, 3, 4, 5, 6, 7, 8, 9, 10, 11, 12] rfl)
    exact L351 (((LL k).2.2 - 1) + 1) (0) H _ _ (by omega) (by omega) hC0 (by rw [flF_0]; exact hX0) hS (lv_sub hl [0, 1, 2, 3, 4, 5, 6, 7, 8, 9, 10, 11, 12] rfl)

set_option maxHeartbeats 4000000 in
set_option maxRecDepth 100000 in
/-- a comma, a tear -/
theorem act_420 {p : Program} {e : Env} {s : State} {m : MethodId} {args : Array Value} {below : List Frame} {meth : Method} {c : Code} {Q : State → Prop} (l : Launch) (hlt : l.stackTraces = false) (g : gT) {B0 B so : Nat} {AD : Nat → Nat} {LL : Nat → ltT} {EE : Nat → evT} {LN : Nat → Nat} {TT : Nat → (Nat → Int32) × Nat} {lc ec la ea : Nat} {ra xa ta : Nat → Nat} {x : Int32} (hx : p.tables.exec = Jvm.exec) (hb : c.code = cL_act) (hml : c.maxLocals = 13) (hts : ∀ w ∈ wsL_act, w.before args s = true) (hown : s.vm.findClass RL = some m.cls) (hK : KK g s) (hZ0 : ZB B0 s s.heap) (htab : c.exceptionTable.toList = tableOf [(17, 69, 822, 82), (70, 264, 822, 82), (265, 323, 822, 82), (324, 419, 822, 82), (420, 426, 822, 82), (427, 520, 822, 82), (521, 527, 822, 82), (528, 622, 822, 82), (623, 684, 822, 82), (685, 734, 822, 82), (735, 813, 822, 82), (814, 821, 822, 82)]) (hJD : JD B0 B AD) (hBH : B ≤ s.heap.size) (hI : Iv LL EE LN TT lc ec) (hDk0 : va_P (gD g) vwCl (wsD g AD LL EE lc ec) s.heap) (hW0 : SW g B so la ea ra xa ta LL EE TT lc ec s.heap)
    (hret : ∀ (pc : Nat) (ls : Array Slot) (H : Heap) (locs : List Loc) (LL2 : Nat → ltT) (EE2 : Nat → evT) (LN2 : Nat → Nat) (TT2 : Nat → (Nat → Int32) × Nat) (lc2 ec2 la2 ea2 : Nat) (ra2 xa2 ta2 : Nat → Nat), JW g B AD so LL2 EE2 LN2 TT2 lc2 ec2 la2 ea2 ra2 xa2 ta2 H → lc ≤ lc2 → 1 ≤ lc2 → va_S (fA (bA B0) s.heap.size) s.heap H locs → decode cL_act pc = .ok (.ireturn, 1) → W p l e { frames := 9, cells := 7, slots := 220, locals := 150 } s m args below meth c H locs 7 220 Q (F0 m pc ls [.int 1]))
    {r k sg pl : Nat} (hr : r < 18) (hk : k < lc) (hsg : sg < 30) (hpl : pl < (LL k).2.2 ∨ ((LL k).2.2 = 0 ∧ pl = 0)) (ls : Array Slot) (hl : lv_has ls 13 [(0, .ref (AD 0)), (1, .ref (so)), (2, .int (x)), (3, .int (nI (lc))), (4, .int (nI (r))), (5, .int (1)), (6, .int (nI (k))), (7, .ref (ra k)), (8, .int (nI ((LL k).2.2))), (9, .int (nI (sg))), (10, .int (nI (pl)))]) : W p l e { frames := 9, cells := 7, slots := 220, locals := 150 } s m args below meth c s.heap [] 0 0 Q (F0 m 420 ls []) := by
  have S : CallFix p m c cL_act 13 s args wsL_act RL := ⟨hx, hb, hml, hown, hts⟩
  have hlc12 := hI.1
  have hec24 := hI.2.1
  have hBso : B ≤ so := hW0.2.1.1
  have hBla : B ≤ la := hW0.2.1.2.1
  have hB0B : B0 ≤ B := hJD.2.2
  have hlso := one_lt hW0.1.1
  have hlla := one_lt hW0.1.2.1
  have hle := hI.le hk
  have hOw0 := (hW0.2.2.1 k hk).1
  have hOw1 := (hW0.2.2.1 k hk).2
  have hOw2 := one_lt hOw0
  have iX4 : ∀ w ∈ u_ws RX4 TX4 2, w ∈ wsL_act := by decide +kernel
  have f9 := hts (.fieldLink RL 9 "LetterSealsLaw$Sim" "letters" "[[I") (by decide +kernel)
  have hC00 : CH nil_ s.heap s.heap := CH.rf
  have hS0 : va_S (fA (bA B0) s.heap.size) s.heap s.heap [] := va_S.rf
  obtain ⟨H, eH⟩ : ∃ H : Heap, H = s.heap := ⟨_, rfl⟩
  obtain ⟨locs, eL⟩ : ∃ L : List Loc, L = [] := ⟨_, rfl⟩
  have hC0 : CH nil_ s.heap H := by rw [eH]; exact hC00
  have hS : va_S (fA (bA B0) s.heap.size) s.heap H locs := by rw [eH, eL]; exact hS0
  suffices hgo : W p l e { frames := 9, cells := 7, slots := 220, locals := 150 } s m args below meth c H locs 0 0 Q (F0 m 420 ls []) by rw [eH, eL] at hgo; exact hgo
  clear hC00 hS0 eH eL
  have hW := hW0.keepN hC0
  have hDk := dk_kept hDk0 hC0 (fun _ _ z => z)
  have hZ := hZ0.kept hC0 (fun _ z => z.elim)
  have hOw := hC0.one hOw0 (fun z => z)
  refine lv_iload hx hb dL_act_420 (lv_at hl 8 rfl) ?_
  refine br_ne0 (a := (LL k).2.2) (tgt := 427) hx hb (by omega) dL_act_422 (by decide) (fun c422 => ?_) (fun c422 => ?_)
  · refine lv_iload hx hb dL_act_427 (lv_at hl 4 rfl) ?_
    refine lv_bipush (v := nI (9)) hx hb dL_act_429 (by decide +kernel) ?_
    refine br_ne (a := r) (b := 9) (tgt := 439) hx hb (by omega) (by omega) dL_act_431 (by decide) (fun c431 => ?_) (fun c431 => ?_)
    · refine lv_bipush (v := 30) hx hb dL_act_439 (by decide +kernel) ?_
      refine lv_istore (lv' := [(11, .int (30)), (0, .ref (AD 0)), (1, .ref (so)), (2, .int (x)), (3, .int (nI (lc))), (4, .int (nI (r))), (5, .int (1)), (6, .int (nI (k))), (7, .ref (ra k)), (8, .int (nI ((LL k).2.2))), (9, .int (nI (sg))), (10, .int (nI (pl)))]) hx hb dL_act_441 hl (by decide) rfl (fun ls hl => ?_)
      refine lv_aload hx hb dL_act_443 (lv_at hl 8 rfl) ?_
      refine lv_iload hx hb dL_act_445 (lv_at hl 11 rfl) ?_
      refine ld_I (k := pl) (n := (LL k).2.2) (f := (LL k).1) hx hb hK.1 hOw 0 rfl (by omega) (by omega) dL_act_447 ?_
      refine lv_iload hx hb dL_act_448 (lv_at hl 0 rfl) ?_
      refine lv_icmp_eq (tgt := 457) hx hb dL_act_450 (by decide) (fun c450 => ?_) (fun c450 => ?_)
      · refine lv_iconst (v := 0) hx hb dL_act_457 (by decide +kernel) ?_
        refine lv_istore (lv' := [(5, .int (0)), (11, .int (30)), (0, .ref (AD 0)), (1, .ref (so)), (2, .int (x)), (3, .int (nI (lc))), (4, .int (nI (r))), (6, .int (nI (k))), (7, .ref (ra k)), (8, .int (nI ((LL k).2.2))), (9, .int (nI (sg))), (10, .int (nI (pl)))]) hx hb dL_act_458 hl (by decide) rfl (fun ls hl => ?_)
        refine lv_aload_n hx hb dL_act_460 rfl (lv_at hl 3 rfl) ?_
        refine va_get (D := gD g) (ci := 4) (v := .ref (la)) (C := RX4) (T := TX4) (N := 2) hx hb hts iX4 hown hK.1 hW.1.1 0 rfl rfl 0 (by decide) f9 (fun _ h9 => h9) rfl dL_act_461 ?_
        refine lv_iload hx hb dL_act_464 (lv_at hl 7 rfl) ?_
        refine lv_aload hx hb dL_act_466 (lv_at hl 8 rfl) ?_
        refine lv_iload hx hb dL_act_468 (lv_at hl 11 rfl) ?_
        refine lv_iload hx hb dL_act_470 (lv_at hl 1 rfl) ?_
        have hsz9 := hS.1
        refine n_S (As := [.ref (ra k), .int (nI (pl)), .int (30)]) (rest := [.int (nI (k)), .ref (la)]) S (c_X4_changed l g H.size (ra k) (LL k).1 (LL k).2.2 pl 30 (by omega) (by omega)) (va_cwS 3 hts gL_act_X4_changed rfl rfl rfl (by decide +kernel) ⟨Nat.le_of_ble_eq_true rfl, Nat.le_of_ble_eq_true rfl⟩) hK hOw hS (fun q z => z.elim) (fun q hq => Or.inr hq) rfl hl.1 rfl (Nat.le_of_ble_eq_true rfl) dL_act_472 ⟨by show _ ≤ 7; omega, by show _ ≤ 220; omega⟩ (fun v H locs hpost hC hS => ?_)
        obtain ⟨X0, rfl, lX9, hX0⟩ := hpost
        have lX0 : s.heap.size ≤ X0 := Nat.le_trans hsz9 lX9
        have hC0 := hC0.trans hC
        have hW := hW0.keepN hC0
        have hDk := dk_kept hDk0 hC0 (fun _ _ z => z)
        have hZ := hZ0.kept hC0 (fun _ z => z.elim)
        have hOw := hC0.one hOw0 (fun z => z)
        have hX9 := hX0
        have hlX := one_lt hX9
        refine pt_A (k := k) (n := lc) (f := fun i => some (ra i)) hx hb hK hW.1.2.1 hX9 hS (Or.inl (show B0 ≤ la by omega)) (by omega) (by omega) dL_act_475 (fun H locs hla hC hS => ?_)
        have hW := SW.set (w := (LL k).2.1) hW hC hX9 (by omega) (by omega) (by omega) hla
        have hDk := dk_kept hDk hC (fun k9 hk9 z => by have := hJD.2.1 k9 hk9; omega)
        have hZ := hZ.kept hC (fun q z => by subst z; omega)
        have hOw := hC.one hOw (by omega)
        refine lv_iload hx hb dL_act_476 (lv_at hl 6 rfl) ?_
        refine lv_bipush (v := nI (9)) hx hb dL_act_478 (by decide +kernel) ?_
        refine br_ne (a := r) (b := 9) (tgt := 494) hx hb (by omega) (by omega) dL_act_480 (by decide) (fun c480 => ?_) (fun c480 => ?_)
        · refine lv_aload_n hx hb dL_act_494 rfl (lv_at hl 2 rfl) ?_
          refine lv_iload hx hb dL_act_495 (lv_at hl 7 rfl) ?_
          refine lv_iload hx hb dL_act_497 (lv_at hl 11 rfl) ?_
          refine cx_V (E := "java/lang/IllegalStateException") (As := [.int (nI (k)), .int (nI (pl))]) (rest := []) S (c_X2_tear_s l hlt g AD LL EE LN lc ec hI.1 hI.2.1 hI.hLL hI.hEE k hk pl (by omega) c450) (cwV 2 hts gL_act_X2_tear rfl rfl rfl (by decide +kernel) ⟨Nat.le_of_ble_eq_true rfl, Nat.le_of_ble_eq_true rfl⟩) hK hZ.zz (va_recv hK.1 hDk (ci := 2) (q0 := 0) rfl dk_me) hDk hS rfl hl.1 rfl (Nat.le_of_ble_eq_true rfl) dL_act_499 ⟨by show _ ≤ 7; omega, by show _ ≤ 220; omega⟩ [⟨17, 69, 822, 82⟩, ⟨70, 264, 822, 82⟩, ⟨265, 323, 822, 82⟩, ⟨324, 419, 822, 82⟩, ⟨420, 426, 822, 82⟩] ⟨427, 520, 822, 82⟩ [⟨521, 527, 822, 82⟩, ⟨528, 622, 822, 82⟩, ⟨623, 684, 822, 82⟩, ⟨685, 734, 822, 82⟩, ⟨735, 813, 822, 82⟩, ⟨814, 821, 822, 82⟩] htab (fun z hz => Or.inl ((by decide : ∀ z ∈ ([⟨17, 69, 822, 82⟩, ⟨70, 264, 822, 82⟩, ⟨265, 323, 822, 82⟩, ⟨324, 419, 822, 82⟩, ⟨420, 426, 822, 82⟩] : List ExceptionTableEntry), covers z 499 = false) z hz)) (by decide) (by decide) (hts (.classLink RL 82 "java/lang/IllegalStateException") (by decide +kernel)) (List.mem_of_getElem? (i := 2) rfl) (fun H qx hC hS => ?_)
          have hDk := dk_kept hDk hC (fun _ _ z => z)
          have hZ := hZ.kept hC (fun _ z => z.elim)
          have hW := hW.keepN hC
          have hOw := hC.one hOw (fun z => z)
          refine lv_astore (lv' := [(6, .ref (qx)), (5, .int (0)), (11, .int (30)), (0, .ref (AD 0)), (1, .ref (so)), (2, .int (x)), (3, .int (nI (lc))), (4, .int (nI (r))), (7, .ref (ra k)), (8, .int (nI ((LL k).2.2))), (9, .int (nI (sg))), (10, .int (nI (pl)))]) hx hb dL_act_822 hl (by decide) rfl (fun ls hl => ?_)
          refine lv_iload hx hb dL_act_824 (lv_at hl 1 rfl) ?_
          refine lv_if_ne (tgt := 833) hx hb dL_act_826 (by decide) (fun c826 => ?_) (fun c826 => ?_)
          · exact absurd rfl c826
          · refine lv_iconst (v := 1) hx hb dL_act_829 (by decide +kernel) ?_
            refine lv_goto (tgt := 834) hx hb dL_act_830 (by decide) ?_
            have hI2 := hI
            have hW := hW.lets (lets_id rfl (upd_id c450 _))
            exact W.widen (by show _ ≤ 7; omega) (by show _ ≤ 220; omega) (hret _ _ _ _ _ _ _ _ _ _ _ _ _ _ _ ⟨hI2, hDk, hW⟩ (by omega) (by omega) hS dL_act_834)
        · exact (by omega : False).elim
      · refine lv_iconst (v := 1) hx hb dL_act_453 (by decide +kernel) ?_
        refine lv_goto (tgt := 458) hx hb dL_act_454 (by decide) ?_
        refine lv_istore (lv' := [(5, .int (1)), (11, .int (30)), (0, .ref (AD 0)), (1, .ref (so)), (2, .int (x)), (3, .int (nI (lc))), (4, .int (nI (r))), (6, .int (nI (k))), (7, .ref (ra k)), (8, .int (nI ((LL k).2.2))), (9, .int (nI (sg))), (10, .int (nI (pl)))]) hx hb dL_act_458 hl (by decide) rfl (fun ls hl => ?_)
        refine lv_aload_n hx hb dL_act_460 rfl (lv_at hl 3 rfl) ?_
        refine va_get (D := gD g) (ci := 4) (v := .ref (la)) (C := RX4) (T := TX4) (N := 2) hx hb hts iX4 hown hK.1 hW.1.1 0 rfl rfl 0 (by decide) f9 (fun _ h9 => h9) rfl dL_act_461 ?_
        refine lv_iload hx hb dL_act_464 (lv_at hl 7 rfl) ?_
        refine lv_aload hx hb dL_act_466 (lv_at hl 8 rfl) ?_
        refine lv_iload hx hb dL_act_468 (lv_at hl 11 rfl) ?_
        refine lv_iload hx hb dL_act_470 (lv_at hl 1 rfl) ?_
        have hsz9 := hS.1
        refine n_S (As := [.ref (ra k), .int (nI (pl)), .int (30)]) (rest := [.int (nI (k)), .ref (la)]) S (c_X4_changed l g H.size (ra k) (LL k).1 (LL k).2.2 pl 30 (by omega) (by omega)) (va_cwS 3 hts gL_act_X4_changed rfl rfl rfl (by decide +kernel) ⟨Nat.le_of_ble_eq_true rfl, Nat.le_of_ble_eq_true rfl⟩) hK hOw hS (fun q z => z.elim) (fun q hq => Or.inr hq) rfl hl.1 rfl (Nat.le_of_ble_eq_true rfl) dL_act_472 ⟨by show _ ≤ 7; omega, by show _ ≤ 220; omega⟩ (fun v H locs hpost hC hS => ?_)
        obtain ⟨X0, rfl, lX9, hX0⟩ := hpost
        have lX0 : s.heap.size ≤ X0 := Nat.le_trans hsz9 lX9
        have hC0 := hC0.trans hC
        have hW := hW0.keepN hC0
        have hDk := dk_kept hDk0 hC0 (fun _ _ z => z)
        have hZ := hZ0.kept hC0 (fun _ z => z.elim)
        have hOw := hC0.one hOw0 (fun z => z)
        have hX9 := hX0
        have hlX := one_lt hX9
        refine pt_A (k := k) (n := lc) (f := fun i => some (ra i)) hx hb hK hW.1.2.1 hX9 hS (Or.inl (show B0 ≤ la by omega)) (by omega) (by omega) dL_act_475 (fun H locs hla hC hS => ?_)
        have hW := SW.set (w := (LL k).2.1) hW hC hX9 (by omega) (by omega) (by omega) hla
        have hDk := dk_kept hDk hC (fun k9 hk9 z => by have := hJD.2.1 k9 hk9; omega)
        have hZ := hZ.kept hC (fun q z => by subst z; omega)
        have hOw := hC.one hOw (by omega)
        refine lv_iload hx hb dL_act_476 (lv_at hl 6 rfl) ?_
        refine lv_bipush (v := nI (9)) hx hb dL_act_478 (by decide +kernel) ?_
        refine br_ne (a := r) (b := 9) (tgt := 494) hx hb (by omega) (by omega) dL_act_480 (by decide) (fun c480 => ?_) (fun c480 => ?_)
        · refine lv_aload_n hx hb dL_act_494 rfl (lv_at hl 2 rfl) ?_
          refine lv_iload hx hb dL_act_495 (lv_at hl 7 rfl) ?_
          refine lv_iload hx hb dL_act_497 (lv_at hl 11 rfl) ?_
          refine w_V (As := [.int (nI (k)), .int (nI (pl))]) (rest := []) S (c_X2_tear l g AD LL EE LN lc ec hI.1 hI.2.1 hI.hLL hI.hEE k hk pl (by omega) c450) (cwV 2 hts gL_act_X2_tear rfl rfl rfl (by decide +kernel) ⟨Nat.le_of_ble_eq_true rfl, Nat.le_of_ble_eq_true rfl⟩) hK (va_recv hK.1 hDk (ci := 2) (q0 := 0) rfl dk_me) hDk hJD.D hS (fun q hq => Or.inl (hJD.wA hq).1) rfl hl.1 rfl (Nat.le_of_ble_eq_true rfl) dL_act_499 ⟨by show _ ≤ 7; omega, by show _ ≤ 220; omega⟩ (fun H locs hDk hz1 hk1 hS => ?_)
          have hC : CH (wA (wsD g AD LL EE lc ec)) _ H := ⟨hz1, hk1⟩
          have hZ := hZ.kept hC (fun q z => (hJD.wA z).1)
          have hW := hW.keep hC (fun q h1 _ h2 => by have := hJD.wA h2; omega)
          have hOw := hC.one hOw (fun h2 => by have := hJD.wA h2; omega)
          refine lv_aload hx hb dL_act_502 (lv_at hl 8 rfl) ?_
          refine lv_iload hx hb dL_act_504 (lv_at hl 11 rfl) ?_
          refine ld_I (k := pl) (n := (LL k).2.2) (f := (LL k).1) hx hb hK.1 hOw 0 rfl (by omega) (by omega) dL_act_506 ?_
          refine lv_icmp_ne (tgt := 519) hx hb dL_act_507 (by decide) (fun c507 => ?_) (fun c507 => ?_)
          · exact absurd rfl c507
          · refine lv_iload hx hb dL_act_510 (lv_at hl 0 rfl) ?_
            refine lv_if_eq (tgt := 519) hx hb dL_act_512 (by decide) (fun c512 => ?_) (fun c512 => ?_)
            · exact absurd c512 (by decide +kernel)
            · refine lv_iconst (v := 1) hx hb dL_act_515 (by decide +kernel) ?_
              refine lv_goto (tgt := 520) hx hb dL_act_516 (by decide) ?_
              have hI2 := hI.set (k := k) (lc2 := lc) (f := upd (LL k).1 (pl) (30)) (w := (LL k).2.1) (n := (LL k).2.2) (Nat.le_refl _) hI.1 hk (Or.inl rfl) (by omega) (by rw [i30]; exact sg_upd (hI.sg hk) (by omega) (Or.inl (Nat.le_refl _)))
              exact W.widen (by show _ ≤ 7; omega) (by show _ ≤ 220; omega) (hret _ _ _ _ _ _ _ _ _ _ _ _ _ _ _ ⟨hI2, hDk, hW⟩ (by omega) (by omega) hS dL_act_520)
        · exact (by omega : False).elim
    · refine lv_bipush (v := 27) hx hb dL_act_434 (by decide +kernel) ?_
      refine lv_goto (tgt := 441) hx hb dL_act_436 (by decide) ?_
      refine lv_istore (lv' := [(11, .int (27)), (0, .ref (AD 0)), (1, .ref (so)), (2, .int (x)), (3, .int (nI (lc))), (4, .int (nI (r))), (5, .int (1)), (6, .int (nI (k))), (7, .ref (ra k)), (8, .int (nI ((LL k).2.2))), (9, .int (nI (sg))), (10, .int (nI (pl)))]) hx hb dL_act_441 hl (by decide) rfl (fun ls hl => ?_)
      refine lv_aload hx hb dL_act_443 (lv_at hl 8 rfl) ?_
      refine lv_iload hx hb dL_act_445 (lv_at hl 11 rfl) ?_
      refine ld_I (k := pl) (n := (LL k).2.2) (f := (LL k).1) hx hb hK.1 hOw 0 rfl (by omega) (by omega) dL_act_447 ?_
      refine lv_iload hx hb dL_act_448 (lv_at hl 0 rfl) ?_
      refine lv_icmp_eq (tgt := 457) hx hb dL_act_450 (by decide) (fun c450 => ?_) (fun c450 => ?_)
      · refine lv_iconst (v := 0) hx hb dL_act_457 (by decide +kernel) ?_
        refine lv_istore (lv' := [(5, .int (0)), (11, .int (27)), (0, .ref (AD 0)), (1, .ref (so)), (2, .int (x)), (3, .int (nI (lc))), (4, .int (nI (r))), (6, .int (nI (k))), (7, .ref (ra k)), (8, .int (nI ((LL k).2.2))), (9, .int (nI (sg))), (10, .int (nI (pl)))]) hx hb dL_act_458 hl (by decide) rfl (fun ls hl => ?_)
        refine lv_aload_n hx hb dL_act_460 rfl (lv_at hl 3 rfl) ?_
        refine va_get (D := gD g) (ci := 4) (v := .ref (la)) (C := RX4) (T := TX4) (N := 2) hx hb hts iX4 hown hK.1 hW.1.1 0 rfl rfl 0 (by decide) f9 (fun _ h9 => h9) rfl dL_act_461 ?_
        refine lv_iload hx hb dL_act_464 (lv_at hl 7 rfl) ?_
        refine lv_aload hx hb dL_act_466 (lv_at hl 8 rfl) ?_
        refine lv_iload hx hb dL_act_468 (lv_at hl 11 rfl) ?_
        refine lv_iload hx hb dL_act_470 (lv_at hl 1 rfl) ?_
        have hsz9 := hS.1
        refine n_S (As := [.ref (ra k), .int (nI (pl)), .int (27)]) (rest := [.int (nI (k)), .ref (la)]) S (c_X4_changed l g H.size (ra k) (LL k).1 (LL k).2.2 pl 27 (by omega) (by omega)) (va_cwS 3 hts gL_act_X4_changed rfl rfl rfl (by decide +kernel) ⟨Nat.le_of_ble_eq_true rfl, Nat.le_of_ble_eq_true rfl⟩) hK hOw hS (fun q z => z.elim) (fun q hq => Or.inr hq) rfl hl.1 rfl (Nat.le_of_ble_eq_true rfl) dL_act_472 ⟨by show _ ≤ 7; omega, by show _ ≤ 220; omega⟩ (fun v H locs hpost hC hS => ?_)
        obtain ⟨X0, rfl, lX9, hX0⟩ := hpost
        have lX0 : s.heap.size ≤ X0 := Nat.le_trans hsz9 lX9
        have hC0 := hC0.trans hC
        have hW := hW0.keepN hC0
        have hDk := dk_kept hDk0 hC0 (fun _ _ z => z)
        have hZ := hZ0.kept hC0 (fun _ z => z.elim)
        have hOw := hC0.one hOw0 (fun z => z)
        have hX9 := hX0
        have hlX := one_lt hX9
        refine pt_A (k := k) (n := lc) (f := fun i => some (ra i)) hx hb hK hW.1.2.1 hX9 hS (Or.inl (show B0 ≤ la by omega)) (by omega) (by omega) dL_act_475 (fun H locs hla hC hS => ?_)
        have hW := SW.set (w := (LL k).2.1) hW hC hX9 (by omega) (by omega) (by omega) hla
        have hDk := dk_kept hDk hC (fun k9 hk9 z => by have := hJD.2.1 k9 hk9; omega)
        have hZ := hZ.kept hC (fun q z => by subst z; omega)
        have hOw := hC.one hOw (by omega)
        refine lv_iload hx hb dL_act_476 (lv_at hl 6 rfl) ?_
        refine lv_bipush (v := nI (9)) hx hb dL_act_478 (by decide +kernel) ?_
        refine br_ne (a := r) (b := 9) (tgt := 494) hx hb (by omega) (by omega) dL_act_480 (by decide) (fun c480 => ?_) (fun c480 => ?_)
        · exact (by omega : False).elim
        · refine lv_aload_n hx hb dL_act_483 rfl (lv_at hl 2 rfl) ?_
          refine lv_iload hx hb dL_act_484 (lv_at hl 7 rfl) ?_
          refine lv_iload hx hb dL_act_486 (lv_at hl 11 rfl) ?_
          refine cx_V (E := "java/lang/IllegalStateException") (As := [.int (nI (k)), .int (nI (pl))]) (rest := []) S (c_X2_forge_s l hlt g AD LL EE LN lc ec hI.1 hI.2.1 hI.hLL hI.hEE k hk pl (by omega) c450) (cwV 2 hts gL_act_X2_forge rfl rfl rfl (by decide +kernel) ⟨Nat.le_of_ble_eq_true rfl, Nat.le_of_ble_eq_true rfl⟩) hK hZ.zz (va_recv hK.1 hDk (ci := 2) (q0 := 0) rfl dk_me) hDk hS rfl hl.1 rfl (Nat.le_of_ble_eq_true rfl) dL_act_488 ⟨by show _ ≤ 7; omega, by show _ ≤ 220; omega⟩ [⟨17, 69, 822, 82⟩, ⟨70, 264, 822, 82⟩, ⟨265, 323, 822, 82⟩, ⟨324, 419, 822, 82⟩, ⟨420, 426, 822, 82⟩] ⟨427, 520, 822, 82⟩ [⟨521, 527, 822, 82⟩, ⟨528, 622, 822, 82⟩, ⟨623, 684, 822, 82⟩, ⟨685, 734, 822, 82⟩, ⟨735, 813, 822, 82⟩, ⟨814, 821, 822, 82⟩] htab (fun z hz => Or.inl ((by decide : ∀ z ∈ ([⟨17, 69, 822, 82⟩, ⟨70, 264, 822, 82⟩, ⟨265, 323, 822, 82⟩, ⟨324, 419, 822, 82⟩, ⟨420, 426, 822, 82⟩] : List ExceptionTableEntry), covers z 488 = false) z hz)) (by decide) (by decide) (hts (.classLink RL 82 "java/lang/IllegalStateException") (by decide +kernel)) (List.mem_of_getElem? (i := 2) rfl) (fun H qx hC hS => ?_)
          have hDk := dk_kept hDk hC (fun _ _ z => z)
          have hZ := hZ.kept hC (fun _ z => z.elim)
          have hW := hW.keepN hC
          have hOw := hC.one hOw (fun z => z)
          refine lv_astore (lv' := [(6, .ref (qx)), (5, .int (0)), (11, .int (27)), (0, .ref (AD 0)), (1, .ref (so)), (2, .int (x)), (3, .int (nI (lc))), (4, .int (nI (r))), (7, .ref (ra k)), (8, .int (nI ((LL k).2.2))), (9, .int (nI (sg))), (10, .int (nI (pl)))]) hx hb dL_act_822 hl (by decide) rfl (fun ls hl => ?_)
          refine lv_iload hx hb dL_act_824 (lv_at hl 1 rfl) ?_
          refine lv_if_ne (tgt := 833) hx hb dL_act_826 (by decide) (fun c826 => ?_) (fun c826 => ?_)
          · exact absurd rfl c826
          · refine lv_iconst (v := 1) hx hb dL_act_829 (by decide +kernel) ?_
            refine lv_goto (tgt := 834) hx hb dL_act_830 (by decide) ?_
            have hI2 := hI
            have hW := hW.lets (lets_id rfl (upd_id c450 _))
            exact W.widen (by show _ ≤ 7; omega) (by show _ ≤ 220; omega) (hret _ _ _ _ _ _ _ _ _ _ _ _ _ _ _ ⟨hI2, hDk, hW⟩ (by omega) (by omega) hS dL_act_834)
      · refine lv_iconst (v := 1) hx hb dL_act_453 (by decide +kernel) ?_
        refine lv_goto (tgt := 458) hx hb dL_act_454 (by decide) ?_
        refine lv_istore (lv' := [(5, .int (1)), (11, .int (27)), (0, .ref (AD 0)), (1, .ref (so)), (2, .int (x)), (3, .int (nI (lc))), (4, .int (nI (r))), (6, .int (nI (k))), (7, .ref (ra k)), (8, .int (nI ((LL k).2.2))), (9, .int (nI (sg))), (10, .int (nI (pl)))]) hx hb dL_act_458 hl (by decide) rfl (fun ls hl => ?_)
        refine lv_aload_n hx hb dL_act_460 rfl (lv_at hl 3 rfl) ?_
        refine va_get (D := gD g) (ci := 4) (v := .ref (la)) (C := RX4) (T := TX4) (N := 2) hx hb hts iX4 hown hK.1 hW.1.1 0 rfl rfl 0 (by decide) f9 (fun _ h9 => h9) rfl dL_act_461 ?_
        refine lv_iload hx hb dL_act_464 (lv_at hl 7 rfl) ?_
        refine lv_aload hx hb dL_act_466 (lv_at hl 8 rfl) ?_
        refine lv_iload hx hb dL_act_468 (lv_at hl 11 rfl) ?_
        refine lv_iload hx hb dL_act_470 (lv_at hl 1 rfl) ?_
        have hsz9 := hS.1
        refine n_S (As := [.ref (ra k), .int (nI (pl)), .int (27)]) (rest := [.int (nI (k)), .ref (la)]) S (c_X4_changed l g H.size (ra k) (LL k).1 (LL k).2.2 pl 27 (by omega) (by omega)) (va_cwS 3 hts gL_act_X4_changed rfl rfl rfl (by decide +kernel) ⟨Nat.le_of_ble_eq_true rfl, Nat.le_of_ble_eq_true rfl⟩) hK hOw hS (fun q z => z.elim) (fun q hq => Or.inr hq) rfl hl.1 rfl (Nat.le_of_ble_eq_true rfl) dL_act_472 ⟨by show _ ≤ 7; omega, by show _ ≤ 220; omega⟩ (fun v H locs hpost hC hS => ?_)
        obtain ⟨X0, rfl, lX9, hX0⟩ := hpost
        have lX0 : s.heap.size ≤ X0 := Nat.le_trans hsz9 lX9
        have hC0 := hC0.trans hC
        have hW := hW0.keepN hC0
        have hDk := dk_kept hDk0 hC0 (fun _ _ z => z)
        have hZ := hZ0.kept hC0 (fun _ z => z.elim)
        have hOw := hC0.one hOw0 (fun z => z)
        have hX9 := hX0
        have hlX := one_lt hX9
        refine pt_A (k := k) (n := lc) (f := fun i => some (ra i)) hx hb hK hW.1.2.1 hX9 hS (Or.inl (show B0 ≤ la by omega)) (by omega) (by omega) dL_act_475 (fun H locs hla hC hS => ?_)
        have hW := SW.set (w := (LL k).2.1) hW hC hX9 (by omega) (by omega) (by omega) hla
        have hDk := dk_kept hDk hC (fun k9 hk9 z => by have := hJD.2.1 k9 hk9; omega)
        have hZ := hZ.kept hC (fun q z => by subst z; omega)
        have hOw := hC.one hOw (by omega)
        refine lv_iload hx hb dL_act_476 (lv_at hl 6 rfl) ?_
        refine lv_bipush (v := nI (9)) hx hb dL_act_478 (by decide +kernel) ?_
        refine br_ne (a := r) (b := 9) (tgt := 494) hx hb (by omega) (by omega) dL_act_480 (by decide) (fun c480 => ?_) (fun c480 => ?_)
        · exact (by omega : False).elim
        · refine lv_aload_n hx hb dL_act_483 rfl (lv_at hl 2 rfl) ?_
          refine lv_iload hx hb dL_act_484 (lv_at hl 7 rfl) ?_
          refine lv_iload hx hb dL_act_486 (lv_at hl 11 rfl) ?_
          refine w_V (As := [.int (nI (k)), .int (nI (pl))]) (rest := []) S (c_X2_forge l g AD LL EE LN lc ec hI.1 hI.2.1 hI.hLL hI.hEE k hk pl (by omega) c450) (cwV 2 hts gL_act_X2_forge rfl rfl rfl (by decide +kernel) ⟨Nat.le_of_ble_eq_true rfl, Nat.le_of_ble_eq_true rfl⟩) hK (va_recv hK.1 hDk (ci := 2) (q0 := 0) rfl dk_me) hDk hJD.D hS (fun q hq => Or.inl (hJD.wA hq).1) rfl hl.1 rfl (Nat.le_of_ble_eq_true rfl) dL_act_488 ⟨by show _ ≤ 7; omega, by show _ ≤ 220; omega⟩ (fun H locs hDk hz1 hk1 hS => ?_)
          have hC : CH (wA (wsD g AD LL EE lc ec)) _ H := ⟨hz1, hk1⟩
          have hZ := hZ.kept hC (fun q z => (hJD.wA z).1)
          have hW := hW.keep hC (fun q h1 _ h2 => by have := hJD.wA h2; omega)
          have hOw := hC.one hOw (fun h2 => by have := hJD.wA h2; omega)
          refine lv_goto (tgt := 502) hx hb dL_act_491 (by decide) ?_
          refine lv_aload hx hb dL_act_502 (lv_at hl 8 rfl) ?_
          refine lv_iload hx hb dL_act_504 (lv_at hl 11 rfl) ?_
          refine ld_I (k := pl) (n := (LL k).2.2) (f := (LL k).1) hx hb hK.1 hOw 0 rfl (by omega) (by omega) dL_act_506 ?_
          refine lv_icmp_ne (tgt := 519) hx hb dL_act_507 (by decide) (fun c507 => ?_) (fun c507 => ?_)
          · exact absurd rfl c507
          · refine lv_iload hx hb dL_act_510 (lv_at hl 0 rfl) ?_
            refine lv_if_eq (tgt := 519) hx hb dL_act_512 (by decide) (fun c512 => ?_) (fun c512 => ?_)
            · exact absurd c512 (by decide +kernel)
            · refine lv_iconst (v := 1) hx hb dL_act_515 (by decide +kernel) ?_
              refine lv_goto (tgt := 520) hx hb dL_act_516 (by decide) ?_
              have hI2 := hI.set (k := k) (lc2 := lc) (f := upd (LL k).1 (pl) (27)) (w := (LL k).2.1) (n := (LL k).2.2) (Nat.le_refl _) hI.1 hk (Or.inl rfl) (by omega) (by rw [i27]; exact sg_upd (hI.sg hk) (by omega) (Or.inl (Nat.le_refl _)))
              exact W.widen (by show _ ≤ 7; omega) (by show _ ≤ 220; omega) (hret _ _ _ _ _ _ _ _ _ _ _ _ _ _ _ ⟨hI2, hDk, hW⟩ (by omega) (by omega) hS dL_act_520)
  · refine lv_iconst (v := 1) hx hb dL_act_425 (by decide +kernel) ?_
    have hI2 := hI
    exact W.widen (by show _ ≤ 7; omega) (by show _ ≤ 220; omega) (hret _ _ _ _ _ _ _ _ _ _ _ _ _ _ _ ⟨hI2, hDk, hW⟩ (by omega) (by omega) hS dL_act_426)

set_option maxHeartbeats 4000000 in
set_option maxRecDepth 100000 in
/-- a sign mended -/
theorem act_549 {p : Program} {e : Env} {s : State} {m : MethodId} {args : Array Value} {below : List Frame} {meth : Method} {c : Code} {Q : State → Prop} (l : Launch) (hlt : l.stackTraces = false) (g : gT) {B0 B so : Nat} {AD : Nat → Nat} {LL : Nat → ltT} {EE : Nat → evT} {LN : Nat → Nat} {TT : Nat → (Nat → Int32) × Nat} {lc ec la ea : Nat} {ra xa ta : Nat → Nat} {x : Int32} (hx : p.tables.exec = Jvm.exec) (hb : c.code = cL_act) (hml : c.maxLocals = 13) (hts : ∀ w ∈ wsL_act, w.before args s = true) (hown : s.vm.findClass RL = some m.cls) (hK : KK g s) (hZ0 : ZB B0 s s.heap) (htab : c.exceptionTable.toList = tableOf [(17, 69, 822, 82), (70, 264, 822, 82), (265, 323, 822, 82), (324, 419, 822, 82), (420, 426, 822, 82), (427, 520, 822, 82), (521, 527, 822, 82), (528, 622, 822, 82), (623, 684, 822, 82), (685, 734, 822, 82), (735, 813, 822, 82), (814, 821, 822, 82)]) (hJD : JD B0 B AD) (hBH : B ≤ s.heap.size) (hI : Iv LL EE LN TT lc ec) (hDk0 : va_P (gD g) vwCl (wsD g AD LL EE lc ec) s.heap) (hW0 : SW g B so la ea ra xa ta LL EE TT lc ec s.heap)
    (hret : ∀ (pc : Nat) (ls : Array Slot) (H : Heap) (locs : List Loc) (LL2 : Nat → ltT) (EE2 : Nat → evT) (LN2 : Nat → Nat) (TT2 : Nat → (Nat → Int32) × Nat) (lc2 ec2 la2 ea2 : Nat) (ra2 xa2 ta2 : Nat → Nat), JW g B AD so LL2 EE2 LN2 TT2 lc2 ec2 la2 ea2 ra2 xa2 ta2 H → lc ≤ lc2 → 1 ≤ lc2 → va_S (fA (bA B0) s.heap.size) s.heap H locs → decode cL_act pc = .ok (.ireturn, 1) → W p l e { frames := 9, cells := 7, slots := 220, locals := 150 } s m args below meth c H locs 7 220 Q (F0 m pc ls [.int 1]))
    {r k sg pl : Nat} (hr : r < 18) (hk : k < lc) (hsg : sg < 30) (hpl : pl < (LL k).2.2) (ls : Array Slot) (hl : lv_has ls 13 [(0, .ref (AD 0)), (1, .ref (so)), (2, .int (x)), (3, .int (nI (lc))), (4, .int (nI (r))), (5, .int (1)), (6, .int (nI (k))), (7, .ref (ra k)), (8, .int (nI ((LL k).2.2))), (9, .int (nI (sg))), (10, .int (nI (pl)))]) : W p l e { frames := 9, cells := 7, slots := 220, locals := 150 } s m args below meth c s.heap [] 0 0 Q (F0 m 549 ls []) := by
  have S : CallFix p m c cL_act 13 s args wsL_act RL := ⟨hx, hb, hml, hown, hts⟩
  have hlc12 := hI.1
  have hec24 := hI.2.1
  have hBso : B ≤ so := hW0.2.1.1
  have hBla : B ≤ la := hW0.2.1.2.1
  have hB0B : B0 ≤ B := hJD.2.2
  have hlso := one_lt hW0.1.1
  have hlla := one_lt hW0.1.2.1
  have hle := hI.le hk
  have hOw0 := (hW0.2.2.1 k hk).1
  have hOw1 := (hW0.2.2.1 k hk).2
  have hOw2 := one_lt hOw0
  have iX4 : ∀ w ∈ u_ws RX4 TX4 2, w ∈ wsL_act := by decide +kernel
  have f9 := hts (.fieldLink RL 9 "LetterSealsLaw$Sim" "letters" "[[I") (by decide +kernel)
  have hC00 : CH nil_ s.heap s.heap := CH.rf
  have hS0 : va_S (fA (bA B0) s.heap.size) s.heap s.heap [] := va_S.rf
  obtain ⟨H, eH⟩ : ∃ H : Heap, H = s.heap := ⟨_, rfl⟩
  obtain ⟨locs, eL⟩ : ∃ L : List Loc, L = [] := ⟨_, rfl⟩
  have hC0 : CH nil_ s.heap H := by rw [eH]; exact hC00
  have hS : va_S (fA (bA B0) s.heap.size) s.heap H locs := by rw [eH, eL]; exact hS0
  suffices hgo : W p l e { frames := 9, cells := 7, slots := 220, locals := 150 } s m args below meth c H locs 0 0 Q (F0 m 549 ls []) by rw [eH, eL] at hgo; exact hgo
  clear hC00 hS0 eH eL
  have hW := hW0.keepN hC0
  have hDk := dk_kept hDk0 hC0 (fun _ _ z => z)
  have hZ := hZ0.kept hC0 (fun _ z => z.elim)
  have hOw := hC0.one hOw0 (fun z => z)
  refine lv_aload hx hb dL_act_549 (lv_at hl 7 rfl) ?_
  refine lv_iload hx hb dL_act_551 (lv_at hl 10 rfl) ?_
  refine ld_I (k := pl) (n := (LL k).2.2) (f := (LL k).1) hx hb hK.1 hOw 0 rfl (by omega) (by omega) dL_act_553 ?_
  refine lv_bipush (v := 30) hx hb dL_act_554 (by decide +kernel) ?_
  refine lv_icmp_ne (tgt := 563) hx hb dL_act_556 (by decide) (fun c556 => ?_) (fun c556 => ?_)
  · refine lv_iconst (v := 0) hx hb dL_act_563 (by decide +kernel) ?_
    refine lv_istore (lv' := [(5, .int (0)), (0, .ref (AD 0)), (1, .ref (so)), (2, .int (x)), (3, .int (nI (lc))), (4, .int (nI (r))), (6, .int (nI (k))), (7, .ref (ra k)), (8, .int (nI ((LL k).2.2))), (9, .int (nI (sg))), (10, .int (nI (pl)))]) hx hb dL_act_564 hl (by decide) rfl (fun ls hl => ?_)
    refine lv_iload hx hb dL_act_566 (lv_at hl 0 rfl) ?_
    refine lv_if_eq (tgt := 587) hx hb dL_act_568 (by decide) (fun c568 => ?_) (fun c568 => ?_)
    · refine lv_aload_n hx hb dL_act_587 rfl (lv_at hl 1 rfl) ?_
      refine lv_iload hx hb dL_act_588 (lv_at hl 6 rfl) ?_
      refine lv_iload hx hb dL_act_590 (lv_at hl 10 rfl) ?_
      refine lv_iload hx hb dL_act_592 (lv_at hl 9 rfl) ?_
      refine cx_V (E := "java/lang/IllegalStateException") (As := [.int (nI (k)), .int (nI (pl)), .int (nI (sg))]) (rest := []) S (c_X2_mend_s l hlt g AD LL EE LN lc ec hI.1 hI.2.1 hI.hLL hI.hEE k hk pl (by omega) (nI sg) (hs_ok sg hsg) c556) (cwV 3 hts gL_act_X2_mend rfl rfl rfl (by decide +kernel) ⟨Nat.le_of_ble_eq_true rfl, Nat.le_of_ble_eq_true rfl⟩) hK hZ.zz (va_recv hK.1 hDk (ci := 2) (q0 := 0) rfl dk_me) hDk hS rfl hl.1 rfl (Nat.le_of_ble_eq_true rfl) dL_act_594 ⟨by show _ ≤ 7; omega, by show _ ≤ 220; omega⟩ [⟨17, 69, 822, 82⟩, ⟨70, 264, 822, 82⟩, ⟨265, 323, 822, 82⟩, ⟨324, 419, 822, 82⟩, ⟨420, 426, 822, 82⟩, ⟨427, 520, 822, 82⟩, ⟨521, 527, 822, 82⟩] ⟨528, 622, 822, 82⟩ [⟨623, 684, 822, 82⟩, ⟨685, 734, 822, 82⟩, ⟨735, 813, 822, 82⟩, ⟨814, 821, 822, 82⟩] htab (fun z hz => Or.inl ((by decide : ∀ z ∈ ([⟨17, 69, 822, 82⟩, ⟨70, 264, 822, 82⟩, ⟨265, 323, 822, 82⟩, ⟨324, 419, 822, 82⟩, ⟨420, 426, 822, 82⟩, ⟨427, 520, 822, 82⟩, ⟨521, 527, 822, 82⟩] : List ExceptionTableEntry), covers z 594 = false) z hz)) (by decide) (by decide) (hts (.classLink RL 82 "java/lang/IllegalStateException") (by decide +kernel)) (List.mem_of_getElem? (i := 2) rfl) (fun H qx hC hS => ?_)
      have hDk := dk_kept hDk hC (fun _ _ z => z)
      have hZ := hZ.kept hC (fun _ z => z.elim)
      have hW := hW.keepN hC
      have hOw := hC.one hOw (fun z => z)
      refine lv_astore (lv' := [(6, .ref (qx)), (5, .int (0)), (0, .ref (AD 0)), (1, .ref (so)), (2, .int (x)), (3, .int (nI (lc))), (4, .int (nI (r))), (7, .ref (ra k)), (8, .int (nI ((LL k).2.2))), (9, .int (nI (sg))), (10, .int (nI (pl)))]) hx hb dL_act_822 hl (by decide) rfl (fun ls hl => ?_)
      refine lv_iload hx hb dL_act_824 (lv_at hl 1 rfl) ?_
      refine lv_if_ne (tgt := 833) hx hb dL_act_826 (by decide) (fun c826 => ?_) (fun c826 => ?_)
      · exact absurd rfl c826
      · refine lv_iconst (v := 1) hx hb dL_act_829 (by decide +kernel) ?_
        refine lv_goto (tgt := 834) hx hb dL_act_830 (by decide) ?_
        have hI2 := hI
        exact W.widen (by show _ ≤ 7; omega) (by show _ ≤ 220; omega) (hret _ _ _ _ _ _ _ _ _ _ _ _ _ _ _ ⟨hI2, hDk, hW⟩ (by omega) (by omega) hS dL_act_834)
    · exact absurd rfl c568
  · refine lv_iconst (v := 1) hx hb dL_act_559 (by decide +kernel) ?_
    refine lv_goto (tgt := 564) hx hb dL_act_560 (by decide) ?_
    refine lv_istore (lv' := [(5, .int (1)), (0, .ref (AD 0)), (1, .ref (so)), (2, .int (x)), (3, .int (nI (lc))), (4, .int (nI (r))), (6, .int (nI (k))), (7, .ref (ra k)), (8, .int (nI ((LL k).2.2))), (9, .int (nI (sg))), (10, .int (nI (pl)))]) hx hb dL_act_564 hl (by decide) rfl (fun ls hl => ?_)
    refine lv_iload hx hb dL_act_566 (lv_at hl 0 rfl) ?_
    refine lv_if_eq (tgt := 587) hx hb dL_act_568 (by decide) (fun c568 => ?_) (fun c568 => ?_)
    · exact absurd c568 (by decide +kernel)
    · refine lv_aload_n hx hb dL_act_571 rfl (lv_at hl 2 rfl) ?_
      refine va_get (D := gD g) (ci := 4) (v := .ref (la)) (C := RX4) (T := TX4) (N := 2) hx hb hts iX4 hown hK.1 hW.1.1 0 rfl rfl 0 (by decide) f9 (fun _ h9 => h9) rfl dL_act_572 ?_
      refine lv_iload hx hb dL_act_575 (lv_at hl 6 rfl) ?_
      refine lv_aload hx hb dL_act_577 (lv_at hl 7 rfl) ?_
      refine lv_iload hx hb dL_act_579 (lv_at hl 10 rfl) ?_
      refine lv_iload hx hb dL_act_581 (lv_at hl 9 rfl) ?_
      have hsz9 := hS.1
      refine n_S (As := [.ref (ra k), .int (nI (pl)), .int (nI (sg))]) (rest := [.int (nI (k)), .ref (la)]) S (c_X4_changed l g H.size (ra k) (LL k).1 (LL k).2.2 pl (nI (sg)) (by omega) (by omega)) (va_cwS 3 hts gL_act_X4_changed rfl rfl rfl (by decide +kernel) ⟨Nat.le_of_ble_eq_true rfl, Nat.le_of_ble_eq_true rfl⟩) hK hOw hS (fun q z => z.elim) (fun q hq => Or.inr hq) rfl hl.1 rfl (Nat.le_of_ble_eq_true rfl) dL_act_583 ⟨by show _ ≤ 7; omega, by show _ ≤ 220; omega⟩ (fun v H locs hpost hC hS => ?_)
      obtain ⟨X0, rfl, lX9, hX0⟩ := hpost
      have lX0 : s.heap.size ≤ X0 := Nat.le_trans hsz9 lX9
      have hC0 := hC0.trans hC
      have hW := hW0.keepN hC0
      have hDk := dk_kept hDk0 hC0 (fun _ _ z => z)
      have hZ := hZ0.kept hC0 (fun _ z => z.elim)
      have hOw := hC0.one hOw0 (fun z => z)
      have hX9 := hX0
      have hlX := one_lt hX9
      refine pt_A (k := k) (n := lc) (f := fun i => some (ra i)) hx hb hK hW.1.2.1 hX9 hS (Or.inl (show B0 ≤ la by omega)) (by omega) (by omega) dL_act_586 (fun H locs hla hC hS => ?_)
      have hW := SW.set (w := (LL k).2.1) hW hC hX9 (by omega) (by omega) (by omega) hla
      have hDk := dk_kept hDk hC (fun k9 hk9 z => by have := hJD.2.1 k9 hk9; omega)
      have hZ := hZ.kept hC (fun q z => by subst z; omega)
      have hOw := hC.one hOw (by omega)
      refine lv_aload_n hx hb dL_act_587 rfl (lv_at hl 1 rfl) ?_
      refine lv_iload hx hb dL_act_588 (lv_at hl 6 rfl) ?_
      refine lv_iload hx hb dL_act_590 (lv_at hl 10 rfl) ?_
      refine lv_iload hx hb dL_act_592 (lv_at hl 9 rfl) ?_
      refine w_V (As := [.int (nI (k)), .int (nI (pl)), .int (nI (sg))]) (rest := []) S (c_X2_mend l g AD LL EE LN lc ec hI.1 hI.2.1 hI.hLL hI.hEE k hk pl (by omega) (nI sg) (hs_ok sg hsg) c556) (cwV 3 hts gL_act_X2_mend rfl rfl rfl (by decide +kernel) ⟨Nat.le_of_ble_eq_true rfl, Nat.le_of_ble_eq_true rfl⟩) hK (va_recv hK.1 hDk (ci := 2) (q0 := 0) rfl dk_me) hDk hJD.D hS (fun q hq => Or.inl (hJD.wA hq).1) rfl hl.1 rfl (Nat.le_of_ble_eq_true rfl) dL_act_594 ⟨by show _ ≤ 7; omega, by show _ ≤ 220; omega⟩ (fun H locs hDk hz1 hk1 hS => ?_)
      have hC : CH (wA (wsD g AD LL EE lc ec)) _ H := ⟨hz1, hk1⟩
      have hZ := hZ.kept hC (fun q z => (hJD.wA z).1)
      have hW := hW.keep hC (fun q h1 _ h2 => by have := hJD.wA h2; omega)
      have hOw := hC.one hOw (fun h2 => by have := hJD.wA h2; omega)
      refine lv_aload_n hx hb dL_act_597 rfl (lv_at hl 2 rfl) ?_
      refine va_get (D := gD g) (ci := 4) (v := .ref (la)) (C := RX4) (T := TX4) (N := 2) hx hb hts iX4 hown hK.1 hW.1.1 0 rfl rfl 0 (by decide) f9 (fun _ h9 => h9) rfl dL_act_598 ?_
      refine lv_iload hx hb dL_act_601 (lv_at hl 6 rfl) ?_
      refine gt_A (k := k) (r := (fup ra k X0) k) hx hb hK hW.1.2.1 rfl (by omega) (by omega) dL_act_603 ?_
      refine lv_bipush (v := 30) hx hb dL_act_604 (by decide +kernel) ?_
      refine p_S (As := [.ref ((fup ra k X0) k), .int (30)]) (rest := [.int (cntF (upd (LL k).1 (pl) (nI (sg))) 30 (LL k).2.2)]) S (c_X4_count l g ((fup ra k X0) k) (((fup LL k ((upd (LL k).1 (pl) (nI (sg)), (LL k).2.1, (LL k).2.2) : ltT)) k).1) (((fup LL k ((upd (LL k).1 (pl) (nI (sg)), (LL k).2.1, (LL k).2.2) : ltT)) k).2.2) (by rw [fup_at]; show (LL k).2.2 ≤ 100; omega) 30) (va_cwS 2 hts gL_act_X4_count rfl rfl rfl (by decide +kernel) ⟨Nat.le_of_ble_eq_true rfl, Nat.le_of_ble_eq_true rfl⟩) hK ((hW.2.2.1 k (by omega)).1) rfl hl.1 rfl (Nat.le_of_ble_eq_true rfl) dL_act_606 ⟨by show _ ≤ 7; omega, by show _ ≤ 220; omega⟩ ?_
      refine lv_toI (z := cntF (upd (LL k).1 (pl) (nI (sg))) 30 (LL k).2.2) (by rw [fup_at]) ?_
      refine lv_icmp_ne (tgt := 621) hx hb dL_act_609 (by decide) (fun c609 => ?_) (fun c609 => ?_)
      · exact absurd rfl c609
      · refine lv_iload hx hb dL_act_612 (lv_at hl 0 rfl) ?_
        refine lv_if_eq (tgt := 621) hx hb dL_act_614 (by decide) (fun c614 => ?_) (fun c614 => ?_)
        · exact absurd c614 (by decide +kernel)
        · refine lv_iconst (v := 1) hx hb dL_act_617 (by decide +kernel) ?_
          refine lv_goto (tgt := 622) hx hb dL_act_618 (by decide) ?_
          have hI2 := hI.set (k := k) (lc2 := lc) (f := upd (LL k).1 (pl) (nI (sg))) (w := (LL k).2.1) (n := (LL k).2.2) (Nat.le_refl _) hI.1 hk (Or.inl rfl) (by omega) (sg_upd (hI.sg hk) (by omega) (Or.inl (Nat.le_refl _)))
          exact W.widen (by show _ ≤ 7; omega) (by show _ ≤ 220; omega) (hret _ _ _ _ _ _ _ _ _ _ _ _ _ _ _ ⟨hI2, hDk, hW⟩ (by omega) (by omega) hS dL_act_622)

theorem act_seal_x (l : Launch) (hlt : l.stackTraces = false) (g : gT) (AD : Nat → Nat) (LL : Nat → ltT) (EE : Nat → evT) (LN : Nat → Nat) (lc ec : Nat) (hlc : lc ≤ 12) (hec : ec ≤ 24) (hLL : ∀ i, i < 12 → (LL i).2.2 ≤ 40) (hEE : ∀ q, q < ec → (EE q).1 = nI (LN q) ∧ LN q < lc ∧ (EE q).2.2.1 ≤ 40 ∧ (EE q).2.2.2.1 ≤ 8) (k : Nat) (hk : k < lc) (h : 24 ≤ ec ∨ (LL k).2.2 = 0) : xM g l yX2_seal wsX2_seal { frames := 7, cells := 1, slots := 6, locals := 103 } [.ref (AD 0), .int (nI k)] (fun H => va_P (gD g) vwCl (wsD g AD LL EE lc ec) H) "java/lang/IllegalStateException" := by
  by_cases h24 : ec < 24
  · exact c_X2_seal_t l hlt g AD LL EE LN lc ec hlc hec hLL hEE k hk h24 (by omega)
  · exact c_X2_seal_s l hlt g AD LL EE LN lc ec hlc hec hLL hEE k hk (by omega)

set_option maxHeartbeats 4000000 in
set_option maxRecDepth 100000 in
/-- an envelope -/
theorem act_623 {p : Program} {e : Env} {s : State} {m : MethodId} {args : Array Value} {below : List Frame} {meth : Method} {c : Code} {Q : State → Prop} (l : Launch) (hlt : l.stackTraces = false) (g : gT) {B0 B so : Nat} {AD : Nat → Nat} {LL : Nat → ltT} {EE : Nat → evT} {LN : Nat → Nat} {TT : Nat → (Nat → Int32) × Nat} {lc ec la ea : Nat} {ra xa ta : Nat → Nat} {x : Int32} (hx : p.tables.exec = Jvm.exec) (hb : c.code = cL_act) (hml : c.maxLocals = 13) (hts : ∀ w ∈ wsL_act, w.before args s = true) (hown : s.vm.findClass RL = some m.cls) (hK : KK g s) (hZ0 : ZB B0 s s.heap) (htab : c.exceptionTable.toList = tableOf [(17, 69, 822, 82), (70, 264, 822, 82), (265, 323, 822, 82), (324, 419, 822, 82), (420, 426, 822, 82), (427, 520, 822, 82), (521, 527, 822, 82), (528, 622, 822, 82), (623, 684, 822, 82), (685, 734, 822, 82), (735, 813, 822, 82), (814, 821, 822, 82)]) (hJD : JD B0 B AD) (hBH : B ≤ s.heap.size) (hI : Iv LL EE LN TT lc ec) (hDk0 : va_P (gD g) vwCl (wsD g AD LL EE lc ec) s.heap) (hW0 : SW g B so la ea ra xa ta LL EE TT lc ec s.heap)
    (hret : ∀ (pc : Nat) (ls : Array Slot) (H : Heap) (locs : List Loc) (LL2 : Nat → ltT) (EE2 : Nat → evT) (LN2 : Nat → Nat) (TT2 : Nat → (Nat → Int32) × Nat) (lc2 ec2 la2 ea2 : Nat) (ra2 xa2 ta2 : Nat → Nat), JW g B AD so LL2 EE2 LN2 TT2 lc2 ec2 la2 ea2 ra2 xa2 ta2 H → lc ≤ lc2 → 1 ≤ lc2 → va_S (fA (bA B0) s.heap.size) s.heap H locs → decode cL_act pc = .ok (.ireturn, 1) → W p l e { frames := 9, cells := 7, slots := 220, locals := 150 } s m args below meth c H locs 7 220 Q (F0 m pc ls [.int 1]))
    {r k sg pl : Nat} (hr : r < 18) (hk : k < lc) (hsg : sg < 30) (hpl : pl < (LL k).2.2 ∨ ((LL k).2.2 = 0 ∧ pl = 0)) (ls : Array Slot) (hl : lv_has ls 13 [(0, .ref (AD 0)), (1, .ref (so)), (2, .int (x)), (3, .int (nI (lc))), (4, .int (nI (r))), (5, .int (1)), (6, .int (nI (k))), (7, .ref (ra k)), (8, .int (nI ((LL k).2.2))), (9, .int (nI (sg))), (10, .int (nI (pl)))]) : W p l e { frames := 9, cells := 7, slots := 220, locals := 150 } s m args below meth c s.heap [] 0 0 Q (F0 m 623 ls []) := by
  have S : CallFix p m c cL_act 13 s args wsL_act RL := ⟨hx, hb, hml, hown, hts⟩
  have hlc12 := hI.1
  have hec24 := hI.2.1
  have hBso : B ≤ so := hW0.2.1.1
  have hBla : B ≤ la := hW0.2.1.2.1
  have hB0B : B0 ≤ B := hJD.2.2
  have hlso := one_lt hW0.1.1
  have hlla := one_lt hW0.1.2.1
  have hle := hI.le hk
  have hOw0 := (hW0.2.2.1 k hk).1
  have hOw1 := (hW0.2.2.1 k hk).2
  have hOw2 := one_lt hOw0
  have iX4 : ∀ w ∈ u_ws RX4 TX4 2, w ∈ wsL_act := by decide +kernel
  have f68 := hts (.fieldLink RL 68 "LetterSealsLaw$Sim" "envelopes" "[LLetterSealsLaw$Envelope;") (by decide +kernel)
  have hC00 : CH nil_ s.heap s.heap := CH.rf
  have hS0 : va_S (fA (bA B0) s.heap.size) s.heap s.heap [] := va_S.rf
  obtain ⟨H, eH⟩ : ∃ H : Heap, H = s.heap := ⟨_, rfl⟩
  obtain ⟨locs, eL⟩ : ∃ L : List Loc, L = [] := ⟨_, rfl⟩
  have hC0 : CH nil_ s.heap H := by rw [eH]; exact hC00
  have hS : va_S (fA (bA B0) s.heap.size) s.heap H locs := by rw [eH, eL]; exact hS0
  suffices hgo : W p l e { frames := 9, cells := 7, slots := 220, locals := 150 } s m args below meth c H locs 0 0 Q (F0 m 623 ls []) by rw [eH, eL] at hgo; exact hgo
  clear hC00 hS0 eH eL
  have hW := hW0.keepN hC0
  have hDk := dk_kept hDk0 hC0 (fun _ _ z => z)
  have hZ := hZ0.kept hC0 (fun _ z => z.elim)
  have hOw := hC0.one hOw0 (fun z => z)
  refine lv_iload hx hb dL_act_623 (lv_at hl 8 rfl) ?_
  refine br_le0 (a := (LL k).2.2) (tgt := 642) hx hb (by omega) dL_act_625 (by decide) (fun c625 => ?_) (fun c625 => ?_)
  · refine lv_iconst (v := 0) hx hb dL_act_642 (by decide +kernel) ?_
    refine lv_istore (lv' := [(5, .int (0)), (0, .ref (AD 0)), (1, .ref (so)), (2, .int (x)), (3, .int (nI (lc))), (4, .int (nI (r))), (6, .int (nI (k))), (7, .ref (ra k)), (8, .int (nI ((LL k).2.2))), (9, .int (nI (sg))), (10, .int (nI (pl)))]) hx hb dL_act_643 hl (by decide) rfl (fun ls hl => ?_)
    refine lv_aload_n hx hb dL_act_645 rfl (lv_at hl 2 rfl) ?_
    refine va_get (D := gD g) (ci := 4) (v := .ref (ea)) (C := RX4) (T := TX4) (N := 2) hx hb hts iX4 hown hK.1 hW.1.1 0 rfl rfl 1 (by decide) f68 (fun _ h9 => h9) rfl dL_act_646 ?_
    refine va_alen (v := nI (ec)) hx hb hK.1 hW.1.2.2 0 4 rfl (ht := (rfl : (gTy g)[4]? = _)) rfl dL_act_649 ?_
    refine lv_istore (lv' := [(11, .int (nI (ec))), (5, .int (0)), (0, .ref (AD 0)), (1, .ref (so)), (2, .int (x)), (3, .int (nI (lc))), (4, .int (nI (r))), (6, .int (nI (k))), (7, .ref (ra k)), (8, .int (nI ((LL k).2.2))), (9, .int (nI (sg))), (10, .int (nI (pl)))]) hx hb dL_act_650 hl (by decide) rfl (fun ls hl => ?_)
    refine lv_iload hx hb dL_act_652 (lv_at hl 1 rfl) ?_
    refine lv_if_eq (tgt := 663) hx hb dL_act_654 (by decide) (fun c654 => ?_) (fun c654 => ?_)
    · refine lv_aload_n hx hb dL_act_663 rfl (lv_at hl 2 rfl) ?_
      refine lv_iload hx hb dL_act_664 (lv_at hl 7 rfl) ?_
      refine cx_V (E := "java/lang/IllegalStateException") (As := [.int (nI (k))]) (rest := []) S (act_seal_x l hlt g AD LL EE LN lc ec hI.1 hI.2.1 hI.hLL hI.hEE k hk (by omega)) (cwV 1 hts gL_act_X2_seal rfl rfl rfl (by decide +kernel) ⟨Nat.le_of_ble_eq_true rfl, Nat.le_of_ble_eq_true rfl⟩) hK hZ.zz (va_recv hK.1 hDk (ci := 2) (q0 := 0) rfl dk_me) hDk hS rfl hl.1 rfl (Nat.le_of_ble_eq_true rfl) dL_act_666 ⟨by show _ ≤ 7; omega, by show _ ≤ 220; omega⟩ [⟨17, 69, 822, 82⟩, ⟨70, 264, 822, 82⟩, ⟨265, 323, 822, 82⟩, ⟨324, 419, 822, 82⟩, ⟨420, 426, 822, 82⟩, ⟨427, 520, 822, 82⟩, ⟨521, 527, 822, 82⟩, ⟨528, 622, 822, 82⟩] ⟨623, 684, 822, 82⟩ [⟨685, 734, 822, 82⟩, ⟨735, 813, 822, 82⟩, ⟨814, 821, 822, 82⟩] htab (fun z hz => Or.inl ((by decide : ∀ z ∈ ([⟨17, 69, 822, 82⟩, ⟨70, 264, 822, 82⟩, ⟨265, 323, 822, 82⟩, ⟨324, 419, 822, 82⟩, ⟨420, 426, 822, 82⟩, ⟨427, 520, 822, 82⟩, ⟨521, 527, 822, 82⟩, ⟨528, 622, 822, 82⟩] : List ExceptionTableEntry), covers z 666 = false) z hz)) (by decide) (by decide) (hts (.classLink RL 82 "java/lang/IllegalStateException") (by decide +kernel)) (List.mem_of_getElem? (i := 2) rfl) (fun H qx hC hS => ?_)
      have hDk := dk_kept hDk hC (fun _ _ z => z)
      have hZ := hZ.kept hC (fun _ z => z.elim)
      have hW := hW.keepN hC
      have hOw := hC.one hOw (fun z => z)
      refine lv_astore (lv' := [(6, .ref (qx)), (11, .int (nI (ec))), (5, .int (0)), (0, .ref (AD 0)), (1, .ref (so)), (2, .int (x)), (3, .int (nI (lc))), (4, .int (nI (r))), (7, .ref (ra k)), (8, .int (nI ((LL k).2.2))), (9, .int (nI (sg))), (10, .int (nI (pl)))]) hx hb dL_act_822 hl (by decide) rfl (fun ls hl => ?_)
      refine lv_iload hx hb dL_act_824 (lv_at hl 2 rfl) ?_
      refine lv_if_ne (tgt := 833) hx hb dL_act_826 (by decide) (fun c826 => ?_) (fun c826 => ?_)
      · exact absurd rfl c826
      · refine lv_iconst (v := 1) hx hb dL_act_829 (by decide +kernel) ?_
        refine lv_goto (tgt := 834) hx hb dL_act_830 (by decide) ?_
        have hI2 := hI
        exact W.widen (by show _ ≤ 7; omega) (by show _ ≤ 220; omega) (hret _ _ _ _ _ _ _ _ _ _ _ _ _ _ _ ⟨hI2, hDk, hW⟩ (by omega) (by omega) hS dL_act_834)
    · exact absurd rfl c654
  · refine lv_aload_n hx hb dL_act_628 rfl (lv_at hl 1 rfl) ?_
    refine va_get (D := gD g) (ci := 4) (v := .ref (ea)) (C := RX4) (T := TX4) (N := 2) hx hb hts iX4 hown hK.1 hW.1.1 0 rfl rfl 1 (by decide) f68 (fun _ h9 => h9) rfl dL_act_629 ?_
    refine va_alen (v := nI (ec)) hx hb hK.1 hW.1.2.2 0 4 rfl (ht := (rfl : (gTy g)[4]? = _)) rfl dL_act_632 ?_
    refine lv_bipush (v := nI (24)) hx hb dL_act_633 (by decide +kernel) ?_
    refine br_ge (a := ec) (b := 24) (tgt := 642) hx hb (by omega) (by omega) dL_act_635 (by decide) (fun c635 => ?_) (fun c635 => ?_)
    · refine lv_iconst (v := 0) hx hb dL_act_642 (by decide +kernel) ?_
      refine lv_istore (lv' := [(5, .int (0)), (0, .ref (AD 0)), (1, .ref (so)), (2, .int (x)), (3, .int (nI (lc))), (4, .int (nI (r))), (6, .int (nI (k))), (7, .ref (ra k)), (8, .int (nI ((LL k).2.2))), (9, .int (nI (sg))), (10, .int (nI (pl)))]) hx hb dL_act_643 hl (by decide) rfl (fun ls hl => ?_)
      refine lv_aload_n hx hb dL_act_645 rfl (lv_at hl 2 rfl) ?_
      refine va_get (D := gD g) (ci := 4) (v := .ref (ea)) (C := RX4) (T := TX4) (N := 2) hx hb hts iX4 hown hK.1 hW.1.1 0 rfl rfl 1 (by decide) f68 (fun _ h9 => h9) rfl dL_act_646 ?_
      refine va_alen (v := nI (ec)) hx hb hK.1 hW.1.2.2 0 4 rfl (ht := (rfl : (gTy g)[4]? = _)) rfl dL_act_649 ?_
      refine lv_istore (lv' := [(11, .int (nI (ec))), (5, .int (0)), (0, .ref (AD 0)), (1, .ref (so)), (2, .int (x)), (3, .int (nI (lc))), (4, .int (nI (r))), (6, .int (nI (k))), (7, .ref (ra k)), (8, .int (nI ((LL k).2.2))), (9, .int (nI (sg))), (10, .int (nI (pl)))]) hx hb dL_act_650 hl (by decide) rfl (fun ls hl => ?_)
      refine lv_iload hx hb dL_act_652 (lv_at hl 1 rfl) ?_
      refine lv_if_eq (tgt := 663) hx hb dL_act_654 (by decide) (fun c654 => ?_) (fun c654 => ?_)
      · refine lv_aload_n hx hb dL_act_663 rfl (lv_at hl 2 rfl) ?_
        refine lv_iload hx hb dL_act_664 (lv_at hl 7 rfl) ?_
        refine cx_V (E := "java/lang/IllegalStateException") (As := [.int (nI (k))]) (rest := []) S (act_seal_x l hlt g AD LL EE LN lc ec hI.1 hI.2.1 hI.hLL hI.hEE k hk (by omega)) (cwV 1 hts gL_act_X2_seal rfl rfl rfl (by decide +kernel) ⟨Nat.le_of_ble_eq_true rfl, Nat.le_of_ble_eq_true rfl⟩) hK hZ.zz (va_recv hK.1 hDk (ci := 2) (q0 := 0) rfl dk_me) hDk hS rfl hl.1 rfl (Nat.le_of_ble_eq_true rfl) dL_act_666 ⟨by show _ ≤ 7; omega, by show _ ≤ 220; omega⟩ [⟨17, 69, 822, 82⟩, ⟨70, 264, 822, 82⟩, ⟨265, 323, 822, 82⟩, ⟨324, 419, 822, 82⟩, ⟨420, 426, 822, 82⟩, ⟨427, 520, 822, 82⟩, ⟨521, 527, 822, 82⟩, ⟨528, 622, 822, 82⟩] ⟨623, 684, 822, 82⟩ [⟨685, 734, 822, 82⟩, ⟨735, 813, 822, 82⟩, ⟨814, 821, 822, 82⟩] htab (fun z hz => Or.inl ((by decide : ∀ z ∈ ([⟨17, 69, 822, 82⟩, ⟨70, 264, 822, 82⟩, ⟨265, 323, 822, 82⟩, ⟨324, 419, 822, 82⟩, ⟨420, 426, 822, 82⟩, ⟨427, 520, 822, 82⟩, ⟨521, 527, 822, 82⟩, ⟨528, 622, 822, 82⟩] : List ExceptionTableEntry), covers z 666 = false) z hz)) (by decide) (by decide) (hts (.classLink RL 82 "java/lang/IllegalStateException") (by decide +kernel)) (List.mem_of_getElem? (i := 2) rfl) (fun H qx hC hS => ?_)
        have hDk := dk_kept hDk hC (fun _ _ z => z)
        have hZ := hZ.kept hC (fun _ z => z.elim)
        have hW := hW.keepN hC
        have hOw := hC.one hOw (fun z => z)
        refine lv_astore (lv' := [(6, .ref (qx)), (11, .int (nI (ec))), (5, .int (0)), (0, .ref (AD 0)), (1, .ref (so)), (2, .int (x)), (3, .int (nI (lc))), (4, .int (nI (r))), (7, .ref (ra k)), (8, .int (nI ((LL k).2.2))), (9, .int (nI (sg))), (10, .int (nI (pl)))]) hx hb dL_act_822 hl (by decide) rfl (fun ls hl => ?_)
        refine lv_iload hx hb dL_act_824 (lv_at hl 2 rfl) ?_
        refine lv_if_ne (tgt := 833) hx hb dL_act_826 (by decide) (fun c826 => ?_) (fun c826 => ?_)
        · exact absurd rfl c826
        · refine lv_iconst (v := 1) hx hb dL_act_829 (by decide +kernel) ?_
          refine lv_goto (tgt := 834) hx hb dL_act_830 (by decide) ?_
          have hI2 := hI
          exact W.widen (by show _ ≤ 7; omega) (by show _ ≤ 220; omega) (hret _ _ _ _ _ _ _ _ _ _ _ _ _ _ _ ⟨hI2, hDk, hW⟩ (by omega) (by omega) hS dL_act_834)
      · exact absurd rfl c654
    · refine lv_iconst (v := 1) hx hb dL_act_638 (by decide +kernel) ?_
      refine lv_goto (tgt := 643) hx hb dL_act_639 (by decide) ?_
      refine lv_istore (lv' := [(5, .int (1)), (0, .ref (AD 0)), (1, .ref (so)), (2, .int (x)), (3, .int (nI (lc))), (4, .int (nI (r))), (6, .int (nI (k))), (7, .ref (ra k)), (8, .int (nI ((LL k).2.2))), (9, .int (nI (sg))), (10, .int (nI (pl)))]) hx hb dL_act_643 hl (by decide) rfl (fun ls hl => ?_)
      refine lv_aload_n hx hb dL_act_645 rfl (lv_at hl 2 rfl) ?_
      refine va_get (D := gD g) (ci := 4) (v := .ref (ea)) (C := RX4) (T := TX4) (N := 2) hx hb hts iX4 hown hK.1 hW.1.1 0 rfl rfl 1 (by decide) f68 (fun _ h9 => h9) rfl dL_act_646 ?_
      refine va_alen (v := nI (ec)) hx hb hK.1 hW.1.2.2 0 4 rfl (ht := (rfl : (gTy g)[4]? = _)) rfl dL_act_649 ?_
      refine lv_istore (lv' := [(11, .int (nI (ec))), (5, .int (1)), (0, .ref (AD 0)), (1, .ref (so)), (2, .int (x)), (3, .int (nI (lc))), (4, .int (nI (r))), (6, .int (nI (k))), (7, .ref (ra k)), (8, .int (nI ((LL k).2.2))), (9, .int (nI (sg))), (10, .int (nI (pl)))]) hx hb dL_act_650 hl (by decide) rfl (fun ls hl => ?_)
      refine lv_iload hx hb dL_act_652 (lv_at hl 1 rfl) ?_
      refine lv_if_eq (tgt := 663) hx hb dL_act_654 (by decide) (fun c654 => ?_) (fun c654 => ?_)
      · exact absurd c654 (by decide +kernel)
      · refine lv_aload_n hx hb dL_act_657 rfl (lv_at hl 3 rfl) ?_
        refine lv_iload hx hb dL_act_658 (lv_at hl 7 rfl) ?_
        refine n_V (As := [.int (nI (k))]) (rest := []) S (c_X4_seal l g H.size B so la ea ra xa ta LL EE TT lc ec k ((nI k, dgF (LL k).1 (LL k).2.2, (LL k).2.2, ((LL k).2.2 + 4) / 5, smF (LL k).1 (LL k).2.2, wtF (LL k).1 (LL k).2.2, slF (lsD EE ec) (dgF (LL k).1 (LL k).2.2), flF (EE ec).2.2.2.2.2.2.2 (blF (LL k).1 (LL k).2.2) (((LL k).2.2 + 4) / 5)) : evT) (by omega) (by omega) hk hle ⟨rfl, rfl, (hI.slE hk).symm⟩) (cwV 1 hts gL_act_X4_seal rfl rfl rfl (by decide +kernel) ⟨Nat.le_of_ble_eq_true rfl, Nat.le_of_ble_eq_true rfl⟩) hK (va_recv hK.1 hW.1.1 (ci := 4) (q0 := 0) rfl rfl) (⟨hW, Nat.le_trans hBH hS.1⟩) hS (fun q hq => Or.inl (show B0 ≤ q by omega)) (fun q hq => Or.inr hq) rfl hl.1 rfl (Nat.le_of_ble_eq_true rfl) dL_act_660 ⟨by show _ ≤ 7; omega, by show _ ≤ 220; omega⟩ (fun v H locs hpost hC hS => ?_)
        obtain ⟨rfl, ea2, xa2, ta2, hW⟩ := hpost
        have hDk := dk_kept hDk hC (fun k9 hk9 z => by have := hJD.2.1 k9 hk9; omega)
        have hZ := hZ.kept hC (fun q z => by subst z; omega)
        have hOw := hC.one hOw (by omega)
        refine lv_aload_n hx hb dL_act_663 rfl (lv_at hl 2 rfl) ?_
        refine lv_iload hx hb dL_act_664 (lv_at hl 7 rfl) ?_
        refine w_V (As := [.int (nI (k))]) (rest := []) S (c_X2_seal l g AD LL EE LN lc ec hI.1 hI.2.1 hI.hLL hI.hEE k hk (by omega) (by omega)) (cwV 1 hts gL_act_X2_seal rfl rfl rfl (by decide +kernel) ⟨Nat.le_of_ble_eq_true rfl, Nat.le_of_ble_eq_true rfl⟩) hK (va_recv hK.1 hDk (ci := 2) (q0 := 0) rfl dk_me) hDk hJD.D hS (fun q hq => Or.inl (hJD.wA hq).1) rfl hl.1 rfl (Nat.le_of_ble_eq_true rfl) dL_act_666 ⟨by show _ ≤ 7; omega, by show _ ≤ 220; omega⟩ (fun H locs hDk hz1 hk1 hS => ?_)
        have hC : CH (wA (wsD g AD LL EE lc ec)) _ H := ⟨hz1, hk1⟩
        have hZ := hZ.kept hC (fun q z => (hJD.wA z).1)
        have hW := hW.keep hC (fun q h1 _ h2 => by have := hJD.wA h2; omega)
        have hOw := hC.one hOw (fun h2 => by have := hJD.wA h2; omega)
        refine lv_iload hx hb dL_act_669 (lv_at hl 0 rfl) ?_
        refine br_ne (a := ec) (b := ec) (tgt := 683) hx hb (by omega) (by omega) dL_act_671 (by decide) (fun c671 => ?_) (fun c671 => ?_)
        · exact absurd rfl c671
        · refine lv_iload hx hb dL_act_674 (lv_at hl 1 rfl) ?_
          refine lv_if_eq (tgt := 683) hx hb dL_act_676 (by decide) (fun c676 => ?_) (fun c676 => ?_)
          · exact absurd c676 (by decide +kernel)
          · refine lv_iconst (v := 1) hx hb dL_act_679 (by decide +kernel) ?_
            refine lv_goto (tgt := 684) hx hb dL_act_680 (by decide) ?_
            have hI2 := hI.seal (e := ((nI k, dgF (LL k).1 (LL k).2.2, (LL k).2.2, ((LL k).2.2 + 4) / 5, smF (LL k).1 (LL k).2.2, wtF (LL k).1 (LL k).2.2, slF (lsD EE ec) (dgF (LL k).1 (LL k).2.2), flF (EE ec).2.2.2.2.2.2.2 (blF (LL k).1 (LL k).2.2) (((LL k).2.2 + 4) / 5)) : evT)) hk (by omega) rfl rfl rfl rfl rfl rfl rfl
            exact W.widen (by show _ ≤ 7; omega) (by show _ ≤ 220; omega) (hret _ _ _ _ _ _ _ _ _ _ _ _ _ _ _ ⟨hI2, hDk, hW⟩ (by omega) (by omega) hS dL_act_684)

set_option maxHeartbeats 4000000 in
set_option maxRecDepth 100000 in
/-- the last envelope away -/
theorem act_685 {p : Program} {e : Env} {s : State} {m : MethodId} {args : Array Value} {below : List Frame} {meth : Method} {c : Code} {Q : State → Prop} (l : Launch) (hlt : l.stackTraces = false) (g : gT) {B0 B so : Nat} {AD : Nat → Nat} {LL : Nat → ltT} {EE : Nat → evT} {LN : Nat → Nat} {TT : Nat → (Nat → Int32) × Nat} {lc ec la ea : Nat} {ra xa ta : Nat → Nat} {x : Int32} (hx : p.tables.exec = Jvm.exec) (hb : c.code = cL_act) (hml : c.maxLocals = 13) (hts : ∀ w ∈ wsL_act, w.before args s = true) (hown : s.vm.findClass RL = some m.cls) (hK : KK g s) (hZ0 : ZB B0 s s.heap) (htab : c.exceptionTable.toList = tableOf [(17, 69, 822, 82), (70, 264, 822, 82), (265, 323, 822, 82), (324, 419, 822, 82), (420, 426, 822, 82), (427, 520, 822, 82), (521, 527, 822, 82), (528, 622, 822, 82), (623, 684, 822, 82), (685, 734, 822, 82), (735, 813, 822, 82), (814, 821, 822, 82)]) (hJD : JD B0 B AD) (hBH : B ≤ s.heap.size) (hI : Iv LL EE LN TT lc ec) (hDk0 : va_P (gD g) vwCl (wsD g AD LL EE lc ec) s.heap) (hW0 : SW g B so la ea ra xa ta LL EE TT lc ec s.heap)
    (hret : ∀ (pc : Nat) (ls : Array Slot) (H : Heap) (locs : List Loc) (LL2 : Nat → ltT) (EE2 : Nat → evT) (LN2 : Nat → Nat) (TT2 : Nat → (Nat → Int32) × Nat) (lc2 ec2 la2 ea2 : Nat) (ra2 xa2 ta2 : Nat → Nat), JW g B AD so LL2 EE2 LN2 TT2 lc2 ec2 la2 ea2 ra2 xa2 ta2 H → lc ≤ lc2 → 1 ≤ lc2 → va_S (fA (bA B0) s.heap.size) s.heap H locs → decode cL_act pc = .ok (.ireturn, 1) → W p l e { frames := 9, cells := 7, slots := 220, locals := 150 } s m args below meth c H locs 7 220 Q (F0 m pc ls [.int 1]))
    {r k sg pl : Nat} (hr : r < 18) (hk : k < lc) (hsg : sg < 30) (hpl : pl < (LL k).2.2 ∨ ((LL k).2.2 = 0 ∧ pl = 0)) (ls : Array Slot) (hl : lv_has ls 13 [(0, .ref (AD 0)), (1, .ref (so)), (2, .int (x)), (3, .int (nI (lc))), (4, .int (nI (r))), (5, .int (1)), (6, .int (nI (k))), (7, .ref (ra k)), (8, .int (nI ((LL k).2.2))), (9, .int (nI (sg))), (10, .int (nI (pl)))]) : W p l e { frames := 9, cells := 7, slots := 220, locals := 150 } s m args below meth c s.heap [] 0 0 Q (F0 m 685 ls []) := by
  have S : CallFix p m c cL_act 13 s args wsL_act RL := ⟨hx, hb, hml, hown, hts⟩
  have hlc12 := hI.1
  have hec24 := hI.2.1
  have hBso : B ≤ so := hW0.2.1.1
  have hBla : B ≤ la := hW0.2.1.2.1
  have hB0B : B0 ≤ B := hJD.2.2
  have hlso := one_lt hW0.1.1
  have hlla := one_lt hW0.1.2.1
  have hle := hI.le hk
  have hOw0 := (hW0.2.2.1 k hk).1
  have hOw1 := (hW0.2.2.1 k hk).2
  have hOw2 := one_lt hOw0
  have iX4 : ∀ w ∈ u_ws RX4 TX4 2, w ∈ wsL_act := by decide +kernel
  have f68 := hts (.fieldLink RL 68 "LetterSealsLaw$Sim" "envelopes" "[LLetterSealsLaw$Envelope;") (by decide +kernel)
  have hC00 : CH nil_ s.heap s.heap := CH.rf
  have hS0 : va_S (fA (bA B0) s.heap.size) s.heap s.heap [] := va_S.rf
  obtain ⟨H, eH⟩ : ∃ H : Heap, H = s.heap := ⟨_, rfl⟩
  obtain ⟨locs, eL⟩ : ∃ L : List Loc, L = [] := ⟨_, rfl⟩
  have hC0 : CH nil_ s.heap H := by rw [eH]; exact hC00
  have hS : va_S (fA (bA B0) s.heap.size) s.heap H locs := by rw [eH, eL]; exact hS0
  suffices hgo : W p l e { frames := 9, cells := 7, slots := 220, locals := 150 } s m args below meth c H locs 0 0 Q (F0 m 685 ls []) by rw [eH, eL] at hgo; exact hgo
  clear hC00 hS0 eH eL
  have hW := hW0.keepN hC0
  have hDk := dk_kept hDk0 hC0 (fun _ _ z => z)
  have hZ := hZ0.kept hC0 (fun _ z => z.elim)
  have hOw := hC0.one hOw0 (fun z => z)
  refine lv_aload_n hx hb dL_act_685 rfl (lv_at hl 1 rfl) ?_
  refine va_get (D := gD g) (ci := 4) (v := .ref (ea)) (C := RX4) (T := TX4) (N := 2) hx hb hts iX4 hown hK.1 hW.1.1 0 rfl rfl 1 (by decide) f68 (fun _ h9 => h9) rfl dL_act_686 ?_
  refine va_alen (v := nI (ec)) hx hb hK.1 hW.1.2.2 0 4 rfl (ht := (rfl : (gTy g)[4]? = _)) rfl dL_act_689 ?_
  refine br_le0 (a := ec) (tgt := 697) hx hb (by omega) dL_act_690 (by decide) (fun c690 => ?_) (fun c690 => ?_)
  · refine lv_iconst (v := 0) hx hb dL_act_697 (by decide +kernel) ?_
    refine lv_istore (lv' := [(5, .int (0)), (0, .ref (AD 0)), (1, .ref (so)), (2, .int (x)), (3, .int (nI (lc))), (4, .int (nI (r))), (6, .int (nI (k))), (7, .ref (ra k)), (8, .int (nI ((LL k).2.2))), (9, .int (nI (sg))), (10, .int (nI (pl)))]) hx hb dL_act_698 hl (by decide) rfl (fun ls hl => ?_)
    refine lv_iload hx hb dL_act_700 (lv_at hl 0 rfl) ?_
    refine lv_if_eq (tgt := 712) hx hb dL_act_702 (by decide) (fun c702 => ?_) (fun c702 => ?_)
    · refine lv_iconst (v := (-1)) hx hb dL_act_712 (by decide +kernel) ?_
      refine lv_istore (lv' := [(11, .int ((-1))), (5, .int (0)), (0, .ref (AD 0)), (1, .ref (so)), (2, .int (x)), (3, .int (nI (lc))), (4, .int (nI (r))), (6, .int (nI (k))), (7, .ref (ra k)), (8, .int (nI ((LL k).2.2))), (9, .int (nI (sg))), (10, .int (nI (pl)))]) hx hb dL_act_713 hl (by decide) rfl (fun ls hl => ?_)
      refine lv_aload_n hx hb dL_act_715 rfl (lv_at hl 2 rfl) ?_
      refine cx_V (E := "java/lang/IllegalStateException") (As := []) (rest := []) S (c_X2_unseal_s l hlt g AD LL EE LN lc ec hI.1 hI.2.1 hI.hLL hI.hEE (by omega)) (cwV 0 hts gL_act_X2_unseal rfl rfl rfl (by decide +kernel) ⟨Nat.le_of_ble_eq_true rfl, Nat.le_of_ble_eq_true rfl⟩) hK hZ.zz (va_recv hK.1 hDk (ci := 2) (q0 := 0) rfl dk_me) hDk hS rfl hl.1 rfl (Nat.le_of_ble_eq_true rfl) dL_act_716 ⟨by show _ ≤ 7; omega, by show _ ≤ 220; omega⟩ [⟨17, 69, 822, 82⟩, ⟨70, 264, 822, 82⟩, ⟨265, 323, 822, 82⟩, ⟨324, 419, 822, 82⟩, ⟨420, 426, 822, 82⟩, ⟨427, 520, 822, 82⟩, ⟨521, 527, 822, 82⟩, ⟨528, 622, 822, 82⟩, ⟨623, 684, 822, 82⟩] ⟨685, 734, 822, 82⟩ [⟨735, 813, 822, 82⟩, ⟨814, 821, 822, 82⟩] htab (fun z hz => Or.inl ((by decide : ∀ z ∈ ([⟨17, 69, 822, 82⟩, ⟨70, 264, 822, 82⟩, ⟨265, 323, 822, 82⟩, ⟨324, 419, 822, 82⟩, ⟨420, 426, 822, 82⟩, ⟨427, 520, 822, 82⟩, ⟨521, 527, 822, 82⟩, ⟨528, 622, 822, 82⟩, ⟨623, 684, 822, 82⟩] : List ExceptionTableEntry), covers z 716 = false) z hz)) (by decide) (by decide) (hts (.classLink RL 82 "java/lang/IllegalStateException") (by decide +kernel)) (List.mem_of_getElem? (i := 2) rfl) (fun H qx hC hS => ?_)
      have hDk := dk_kept hDk hC (fun _ _ z => z)
      have hZ := hZ.kept hC (fun _ z => z.elim)
      have hW := hW.keepN hC
      have hOw := hC.one hOw (fun z => z)
      refine lv_astore (lv' := [(6, .ref (qx)), (11, .int ((-1))), (5, .int (0)), (0, .ref (AD 0)), (1, .ref (so)), (2, .int (x)), (3, .int (nI (lc))), (4, .int (nI (r))), (7, .ref (ra k)), (8, .int (nI ((LL k).2.2))), (9, .int (nI (sg))), (10, .int (nI (pl)))]) hx hb dL_act_822 hl (by decide) rfl (fun ls hl => ?_)
      refine lv_iload hx hb dL_act_824 (lv_at hl 2 rfl) ?_
      refine lv_if_ne (tgt := 833) hx hb dL_act_826 (by decide) (fun c826 => ?_) (fun c826 => ?_)
      · exact absurd rfl c826
      · refine lv_iconst (v := 1) hx hb dL_act_829 (by decide +kernel) ?_
        refine lv_goto (tgt := 834) hx hb dL_act_830 (by decide) ?_
        have hI2 := hI
        exact W.widen (by show _ ≤ 7; omega) (by show _ ≤ 220; omega) (hret _ _ _ _ _ _ _ _ _ _ _ _ _ _ _ ⟨hI2, hDk, hW⟩ (by omega) (by omega) hS dL_act_834)
    · exact absurd rfl c702
  · refine lv_iconst (v := 1) hx hb dL_act_693 (by decide +kernel) ?_
    refine lv_goto (tgt := 698) hx hb dL_act_694 (by decide) ?_
    refine lv_istore (lv' := [(5, .int (1)), (0, .ref (AD 0)), (1, .ref (so)), (2, .int (x)), (3, .int (nI (lc))), (4, .int (nI (r))), (6, .int (nI (k))), (7, .ref (ra k)), (8, .int (nI ((LL k).2.2))), (9, .int (nI (sg))), (10, .int (nI (pl)))]) hx hb dL_act_698 hl (by decide) rfl (fun ls hl => ?_)
    refine lv_iload hx hb dL_act_700 (lv_at hl 0 rfl) ?_
    refine lv_if_eq (tgt := 712) hx hb dL_act_702 (by decide) (fun c702 => ?_) (fun c702 => ?_)
    · exact absurd c702 (by decide +kernel)
    · refine lv_aload_n hx hb dL_act_705 rfl (lv_at hl 2 rfl) ?_
      refine n_V (As := []) (rest := []) S (c_X4_unseal l g H.size B so la ea ra xa ta LL EE TT lc ec (by omega) (by omega) (by omega)) (cwV 0 hts gL_act_X4_unseal rfl rfl rfl (by decide +kernel) ⟨Nat.le_of_ble_eq_true rfl, Nat.le_of_ble_eq_true rfl⟩) hK (va_recv hK.1 hW.1.1 (ci := 4) (q0 := 0) rfl rfl) (⟨hW, Nat.le_trans hBH hS.1⟩) hS (fun q hq => Or.inl (show B0 ≤ q by omega)) (fun q hq => Or.inr hq) rfl hl.1 rfl (Nat.le_of_ble_eq_true rfl) dL_act_706 ⟨by show _ ≤ 7; omega, by show _ ≤ 220; omega⟩ (fun v H locs hpost hC hS => ?_)
      obtain ⟨rfl, ea2, hW⟩ := hpost
      have hDk := dk_kept hDk hC (fun k9 hk9 z => by have := hJD.2.1 k9 hk9; omega)
      have hZ := hZ.kept hC (fun q z => by subst z; omega)
      have hOw := hC.one hOw (by omega)
      refine lv_goto (tgt := 713) hx hb dL_act_709 (by decide) ?_
      refine lv_istore (lv' := [(11, .int ((EE (ec - 1)).2.2.2.2.2.2.1)), (5, .int (1)), (0, .ref (AD 0)), (1, .ref (so)), (2, .int (x)), (3, .int (nI (lc))), (4, .int (nI (r))), (6, .int (nI (k))), (7, .ref (ra k)), (8, .int (nI ((LL k).2.2))), (9, .int (nI (sg))), (10, .int (nI (pl)))]) hx hb dL_act_713 hl (by decide) rfl (fun ls hl => ?_)
      refine lv_aload_n hx hb dL_act_715 rfl (lv_at hl 2 rfl) ?_
      refine w_V (As := []) (rest := []) S (c_X2_unseal l g AD LL EE LN lc ec hI.1 hI.2.1 hI.hLL hI.hEE (by omega)) (cwV 0 hts gL_act_X2_unseal rfl rfl rfl (by decide +kernel) ⟨Nat.le_of_ble_eq_true rfl, Nat.le_of_ble_eq_true rfl⟩) hK (va_recv hK.1 hDk (ci := 2) (q0 := 0) rfl dk_me) hDk hJD.D hS (fun q hq => Or.inl (hJD.wA hq).1) rfl hl.1 rfl (Nat.le_of_ble_eq_true rfl) dL_act_716 ⟨by show _ ≤ 7; omega, by show _ ≤ 220; omega⟩ (fun H locs hDk hz1 hk1 hS => ?_)
      have hC : CH (wA (wsD g AD LL EE lc ec)) _ H := ⟨hz1, hk1⟩
      have hZ := hZ.kept hC (fun q z => (hJD.wA z).1)
      have hW := hW.keep hC (fun q h1 _ h2 => by have := hJD.wA h2; omega)
      have hOw := hC.one hOw (fun h2 => by have := hJD.wA h2; omega)
      refine lv_iload hx hb dL_act_719 (lv_at hl 0 rfl) ?_
      refine lv_icmp_ne (tgt := 733) hx hb dL_act_721 (by decide) (fun c721 => ?_) (fun c721 => ?_)
      · exact absurd rfl c721
      · refine lv_iload hx hb dL_act_724 (lv_at hl 1 rfl) ?_
        refine lv_if_eq (tgt := 733) hx hb dL_act_726 (by decide) (fun c726 => ?_) (fun c726 => ?_)
        · exact absurd c726 (by decide +kernel)
        · refine lv_iconst (v := 1) hx hb dL_act_729 (by decide +kernel) ?_
          refine lv_goto (tgt := 734) hx hb dL_act_730 (by decide) ?_
          have hI2 := hI.unseal
          exact W.widen (by show _ ≤ 7; omega) (by show _ ≤ 220; omega) (hret _ _ _ _ _ _ _ _ _ _ _ _ _ _ _ ⟨hI2, hDk, hW⟩ (by omega) (by omega) hS dL_act_734)

theorem act_pred (a : Nat) : nI (a + 1) + (-1) = nI a := by
  rw [← nI_1, Int32.add_assoc]
  have h : (1 : Int32) + -1 = 0 := by decide +kernel
  rw [h, Int32.add_zero]
set_option maxHeartbeats 4000000 in
set_option maxRecDepth 100000 in
/-- the place goes back to a blurred sign -/
theorem act_528 {p : Program} {e : Env} {s : State} {m : MethodId} {args : Array Value} {below : List Frame} {meth : Method} {c : Code} {Q : State → Prop} (l : Launch) (hlt : l.stackTraces = false) (g : gT) {B0 B so : Nat} {AD : Nat → Nat} {LL : Nat → ltT} {EE : Nat → evT} {LN : Nat → Nat} {TT : Nat → (Nat → Int32) × Nat} {lc ec la ea : Nat} {ra xa ta : Nat → Nat} {x : Int32} (hx : p.tables.exec = Jvm.exec) (hb : c.code = cL_act) (hml : c.maxLocals = 13) (hts : ∀ w ∈ wsL_act, w.before args s = true) (hown : s.vm.findClass RL = some m.cls) (hK : KK g s) (hZ0 : ZB B0 s s.heap) (htab : c.exceptionTable.toList = tableOf [(17, 69, 822, 82), (70, 264, 822, 82), (265, 323, 822, 82), (324, 419, 822, 82), (420, 426, 822, 82), (427, 520, 822, 82), (521, 527, 822, 82), (528, 622, 822, 82), (623, 684, 822, 82), (685, 734, 822, 82), (735, 813, 822, 82), (814, 821, 822, 82)]) (hJD : JD B0 B AD) (hBH : B ≤ s.heap.size) (hI : Iv LL EE LN TT lc ec) (hDk0 : va_P (gD g) vwCl (wsD g AD LL EE lc ec) s.heap) (hW0 : SW g B so la ea ra xa ta LL EE TT lc ec s.heap)
    (hret : ∀ (pc : Nat) (ls : Array Slot) (H : Heap) (locs : List Loc) (LL2 : Nat → ltT) (EE2 : Nat → evT) (LN2 : Nat → Nat) (TT2 : Nat → (Nat → Int32) × Nat) (lc2 ec2 la2 ea2 : Nat) (ra2 xa2 ta2 : Nat → Nat), JW g B AD so LL2 EE2 LN2 TT2 lc2 ec2 la2 ea2 ra2 xa2 ta2 H → lc ≤ lc2 → 1 ≤ lc2 → va_S (fA (bA B0) s.heap.size) s.heap H locs → decode cL_act pc = .ok (.ireturn, 1) → W p l e { frames := 9, cells := 7, slots := 220, locals := 150 } s m args below meth c H locs 7 220 Q (F0 m pc ls [.int 1]))
    {r k sg : Nat} (hr : r < 18) (hk : k < lc) (hsg : sg < 30) : ∀ (pl : Nat) (ls : Array Slot), pl < (LL k).2.2 → lv_has ls 13 [(0, .ref (AD 0)), (1, .ref (so)), (2, .int (x)), (3, .int (nI (lc))), (4, .int (nI (r))), (5, .int (1)), (6, .int (nI (k))), (7, .ref (ra k)), (8, .int (nI ((LL k).2.2))), (9, .int (nI (sg))), (10, .int (nI (pl)))] → W p l e { frames := 9, cells := 7, slots := 220, locals := 150 } s m args below meth c s.heap [] 0 0 Q (F0 m 528 ls []) := by
  have hle := hI.le hk
  have hOw := (hW0.2.2.1 k hk).1
  intro pl
  induction pl with
  | zero =>
    intro ls hpl hl
    refine lv_iload hx hb dL_act_528 (lv_at hl 10 rfl) ?_
    refine br_le0 (a := 0) (tgt := 549) hx hb (by omega) dL_act_530 (by decide) (fun _ => ?_) (fun c => absurd c (by omega))
    exact act_549 l hlt g hx hb hml hts hown hK hZ0 htab hJD hBH hI hDk0 hW0 hret hr hk hsg hpl ls hl
  | succ pl ih =>
    intro ls hpl hl
    refine lv_iload hx hb dL_act_528 (lv_at hl 10 rfl) ?_
    refine br_le0 (a := pl + 1) (tgt := 549) hx hb (by omega) dL_act_530 (by decide) (fun c => absurd c (by omega)) (fun _ => ?_)
    refine lv_aload hx hb dL_act_533 (lv_at hl 7 rfl) ?_
    refine lv_iload hx hb dL_act_535 (lv_at hl 10 rfl) ?_
    refine ld_I (k := pl + 1) (n := (LL k).2.2) (f := (LL k).1) hx hb hK.1 hOw 0 rfl hpl (by omega) dL_act_537 ?_
    refine lv_bipush (v := 30) hx hb dL_act_538 (by decide +kernel) ?_
    refine lv_icmp_eq (tgt := 549) hx hb dL_act_540 (by decide) (fun _ => ?_) (fun _ => ?_)
    · exact act_549 l hlt g hx hb hml hts hown hK hZ0 htab hJD hBH hI hDk0 hW0 hret hr hk hsg hpl ls hl
    · refine lv_iinc (v := nI pl) (lv' := [(10, .int (nI pl)), (0, .ref (AD 0)), (1, .ref so), (2, .int x), (3, .int (nI lc)), (4, .int (nI r)), (5, .int 1), (6, .int (nI k)), (7, .ref (ra k)), (8, .int (nI (LL k).2.2)), (9, .int (nI sg))]) hx hb dL_act_543 hl (k := 10) rfl (act_pred pl) (by decide) rfl (fun ls hl => ?_)
      refine lv_goto (tgt := 528) hx hb dL_act_546 (by decide) ?_
      exact ih ls (by omega) (lv_sub hl [1, 2, 3, 4, 5, 6, 7, 8, 9, 10, 0] rfl)
set_option maxHeartbeats 4000000 in
set_option maxRecDepth 100000 in
theorem act_521 {p : Program} {e : Env} {s : State} {m : MethodId} {args : Array Value} {below : List Frame} {meth : Method} {c : Code} {Q : State → Prop} (l : Launch) (hlt : l.stackTraces = false) (g : gT) {B0 B so : Nat} {AD : Nat → Nat} {LL : Nat → ltT} {EE : Nat → evT} {LN : Nat → Nat} {TT : Nat → (Nat → Int32) × Nat} {lc ec la ea : Nat} {ra xa ta : Nat → Nat} {x : Int32} (hx : p.tables.exec = Jvm.exec) (hb : c.code = cL_act) (hml : c.maxLocals = 13) (hts : ∀ w ∈ wsL_act, w.before args s = true) (hown : s.vm.findClass RL = some m.cls) (hK : KK g s) (hZ0 : ZB B0 s s.heap) (htab : c.exceptionTable.toList = tableOf [(17, 69, 822, 82), (70, 264, 822, 82), (265, 323, 822, 82), (324, 419, 822, 82), (420, 426, 822, 82), (427, 520, 822, 82), (521, 527, 822, 82), (528, 622, 822, 82), (623, 684, 822, 82), (685, 734, 822, 82), (735, 813, 822, 82), (814, 821, 822, 82)]) (hJD : JD B0 B AD) (hBH : B ≤ s.heap.size) (hI : Iv LL EE LN TT lc ec) (hDk0 : va_P (gD g) vwCl (wsD g AD LL EE lc ec) s.heap) (hW0 : SW g B so la ea ra xa ta LL EE TT lc ec s.heap)
    (hret : ∀ (pc : Nat) (ls : Array Slot) (H : Heap) (locs : List Loc) (LL2 : Nat → ltT) (EE2 : Nat → evT) (LN2 : Nat → Nat) (TT2 : Nat → (Nat → Int32) × Nat) (lc2 ec2 la2 ea2 : Nat) (ra2 xa2 ta2 : Nat → Nat), JW g B AD so LL2 EE2 LN2 TT2 lc2 ec2 la2 ea2 ra2 xa2 ta2 H → lc ≤ lc2 → 1 ≤ lc2 → va_S (fA (bA B0) s.heap.size) s.heap H locs → decode cL_act pc = .ok (.ireturn, 1) → W p l e { frames := 9, cells := 7, slots := 220, locals := 150 } s m args below meth c H locs 7 220 Q (F0 m pc ls [.int 1]))
    {r k sg pl : Nat} (hr : r < 18) (hk : k < lc) (hsg : sg < 30) (hpl : pl < (LL k).2.2 ∨ ((LL k).2.2 = 0 ∧ pl = 0)) (ls : Array Slot) (hl : lv_has ls 13 [(0, .ref (AD 0)), (1, .ref (so)), (2, .int (x)), (3, .int (nI (lc))), (4, .int (nI (r))), (5, .int (1)), (6, .int (nI (k))), (7, .ref (ra k)), (8, .int (nI ((LL k).2.2))), (9, .int (nI (sg))), (10, .int (nI (pl)))]) : W p l e { frames := 9, cells := 7, slots := 220, locals := 150 } s m args below meth c s.heap [] 0 0 Q (F0 m 521 ls []) := by
  have hle := hI.le hk
  have hlc := hI.1
  refine lv_iload hx hb dL_act_521 (lv_at hl 8 rfl) ?_
  refine br_ne0 (a := (LL k).2.2) (tgt := 528) hx hb (by omega) dL_act_523 (by decide) (fun c => act_528 l hlt g hx hb hml hts hown hK hZ0 htab hJD hBH hI hDk0 hW0 hret hr hk hsg pl ls (by omega) hl) (fun c => ?_)
  refine lv_iconst (v := 1) hx hb dL_act_526 (by decide +kernel) ?_
  exact W.widen (by show _ ≤ 7; omega) (by show _ ≤ 220; omega) (hret _ _ _ _ _ _ _ _ _ _ _ _ _ _ _ ⟨hI, hDk0, hW0⟩ (by omega) (by omega) va_S.rf dL_act_527)

set_option maxHeartbeats 4000000 in
set_option maxRecDepth 100000 in
/-- five signs more -/
theorem act_738 {p : Program} {e : Env} {s : State} {m : MethodId} {args : Array Value} {below : List Frame} {meth : Method} {c : Code} {Q : State → Prop} (l : Launch) (hlt : l.stackTraces = false) (g : gT) {B0 B so : Nat} {AD : Nat → Nat} {LL : Nat → ltT} {EE : Nat → evT} {LN : Nat → Nat} {TT : Nat → (Nat → Int32) × Nat} {lc ec la ea : Nat} {ra xa ta : Nat → Nat} {x : Int32} (hx : p.tables.exec = Jvm.exec) (hb : c.code = cL_act) (hml : c.maxLocals = 13) (hts : ∀ w ∈ wsL_act, w.before args s = true) (hown : s.vm.findClass RL = some m.cls) (hK : KK g s) (hZ0 : ZB B0 s s.heap) (htab : c.exceptionTable.toList = tableOf [(17, 69, 822, 82), (70, 264, 822, 82), (265, 323, 822, 82), (324, 419, 822, 82), (420, 426, 822, 82), (427, 520, 822, 82), (521, 527, 822, 82), (528, 622, 822, 82), (623, 684, 822, 82), (685, 734, 822, 82), (735, 813, 822, 82), (814, 821, 822, 82)]) (hJD : JD B0 B AD) (hBH : B ≤ s.heap.size) (hI : Iv LL EE LN TT lc ec) (hDk0 : va_P (gD g) vwCl (wsD g AD LL EE lc ec) s.heap) (hW0 : SW g B so la ea ra xa ta LL EE TT lc ec s.heap)
    (hret : ∀ (pc : Nat) (ls : Array Slot) (H : Heap) (locs : List Loc) (LL2 : Nat → ltT) (EE2 : Nat → evT) (LN2 : Nat → Nat) (TT2 : Nat → (Nat → Int32) × Nat) (lc2 ec2 la2 ea2 : Nat) (ra2 xa2 ta2 : Nat → Nat), JW g B AD so LL2 EE2 LN2 TT2 lc2 ec2 la2 ea2 ra2 xa2 ta2 H → lc ≤ lc2 → 1 ≤ lc2 → va_S (fA (bA B0) s.heap.size) s.heap H locs → decode cL_act pc = .ok (.ireturn, 1) → W p l e { frames := 9, cells := 7, slots := 220, locals := 150 } s m args below meth c H locs 7 220 Q (F0 m pc ls [.int 1]))
    {k : Nat} (hk : k < lc) : ∀ (k1 i : Nat) (LL : Nat → ltT) (ra : Nat → Nat) (H : Heap) (locs : List Loc) (ls : Array Slot), 5 - i < k1 → i ≤ 5 → Iv LL EE LN TT lc ec → va_P (gD g) vwCl (wsD g AD LL EE lc ec) H → SW g B so la ea ra xa ta LL EE TT lc ec H → ZB B0 s H → va_S (fA (bA B0) s.heap.size) s.heap H locs → lv_has ls 13 [(11, .int (nI i)), (0, .ref (AD 0)), (1, .ref (so)), (2, .int (x)), (5, .int (1)), (6, .int (nI (k)))] → W p l e { frames := 9, cells := 7, slots := 220, locals := 150 } s m args below meth c H locs (0 + i) (0 + 41 * i) Q (F0 m 738 ls []) := by
  have S : CallFix p m c cL_act 13 s args wsL_act RL := ⟨hx, hb, hml, hown, hts⟩
  have hlc12 := hI.1
  have hec24 := hI.2.1
  have hBso : B ≤ so := hW0.2.1.1
  have hBla : B ≤ la := hW0.2.1.2.1
  have hB0B : B0 ≤ B := hJD.2.2
  have hlso := one_lt hW0.1.1
  have hlla := one_lt hW0.1.2.1
  have iX4 : ∀ w ∈ u_ws RX4 TX4 2, w ∈ wsL_act := by decide +kernel
  have f9 := hts (.fieldLink RL 9 "LetterSealsLaw$Sim" "letters" "[[I") (by decide +kernel)
  intro k1
  induction k1 with
  | zero => intro i LL ra H locs ls hFu; exact absurd hFu (Nat.not_lt_zero _)
  | succ k1 ih =>
    intro i LL ra H locs ls hFu hLe hI hDk hW hZ hS hl
    have hle := hI.le hk
    have hOw1 := (hW.2.2.1 k hk).2
    have hOw2 := one_lt (hW.2.2.1 k hk).1
    have hszH := hS.1
    refine lv_iload hx hb dL_act_738 (lv_at hl 0 rfl) ?_
    refine lv_iconst (v := nI (5)) hx hb dL_act_740 (by decide +kernel) ?_
    refine br_ge (a := i) (b := 5) (tgt := 820) hx hb (by omega) (by omega) dL_act_741 (by decide) (fun c741 => ?_) (fun c741 => ?_)
    · refine lv_iconst (v := 1) hx hb dL_act_820 (by decide +kernel) ?_
      have hI2 := hI
      exact W.widen (by show _ ≤ 7; omega) (by show _ ≤ 220; omega) (hret _ _ _ _ _ _ _ _ _ _ _ _ _ _ _ ⟨hI2, hDk, hW⟩ (by omega) (by omega) hS dL_act_821)
    · refine lv_aload_n hx hb dL_act_744 rfl (lv_at hl 2 rfl) ?_
      refine va_get (D := gD g) (ci := 4) (v := .ref (la)) (C := RX4) (T := TX4) (N := 2) hx hb hts iX4 hown hK.1 hW.1.1 0 rfl rfl 0 (by decide) f9 (fun _ h9 => h9) rfl dL_act_745 ?_
      refine lv_iload hx hb dL_act_748 (lv_at hl 5 rfl) ?_
      refine gt_A (k := k) (r := ra k) hx hb hK hW.1.2.1 rfl (by omega) (by omega) dL_act_750 ?_
      refine va_alen (v := nI ((LL k).2.2)) hx hb hK.1 (hW.2.2.1 k (by omega)).1 0 0 rfl (ht := (rfl : (gTy g)[0]? = _)) rfl dL_act_751 ?_
      refine lv_bipush (v := nI (40)) hx hb dL_act_752 (by decide +kernel) ?_
      refine br_ge (a := (LL k).2.2) (b := 40) (tgt := 820) hx hb (by omega) (by omega) dL_act_754 (by decide) (fun c754 => ?_) (fun c754 => ?_)
      · refine lv_iconst (v := 1) hx hb dL_act_820 (by decide +kernel) ?_
        have hI2 := hI
        exact W.widen (by show _ ≤ 7; omega) (by show _ ≤ 220; omega) (hret _ _ _ _ _ _ _ _ _ _ _ _ _ _ _ ⟨hI2, hDk, hW⟩ (by omega) (by omega) hS dL_act_821)
      · refine lv_iload_n hx hb dL_act_757 rfl (lv_at hl 3 rfl) ?_
        refine lv_iload hx hb dL_act_758 (lv_at hl 0 rfl) ?_
        refine lv_ishr hx hb dL_act_760 ?_
        refine lv_bipush (v := nI (7)) hx hb dL_act_761 (by decide +kernel) ?_
        refine lv_iload hx hb dL_act_763 (lv_at hl 0 rfl) ?_
        refine lv_imul hx hb dL_act_765 ?_
        refine lv_toI (z := nI (7 * i)) (pk_mul _ _) ?_
        refine lv_iadd hx hb dL_act_766 ?_
        refine lv_bipush (v := nI (30)) hx hb dL_act_767 (by decide +kernel) ?_
        refine p_S (As := [.int (((x) >>> ((nI i) &&& 31)) + (nI (7 * i))), .int (nI (30))]) (rest := []) S (c_L_below l g (((x) >>> ((nI i) &&& 31)) + (nI (7 * i))) 30 (by omega) (by omega)) (va_cwS 2 hts gL_act_L_below rfl rfl rfl (by decide +kernel) ⟨Nat.le_of_ble_eq_true rfl, Nat.le_of_ble_eq_true rfl⟩) hK (trivial) rfl hl.1 rfl (Nat.le_of_ble_eq_true rfl) dL_act_769 ⟨by show _ ≤ 7; omega, by show _ ≤ 220; omega⟩ ?_
        obtain ⟨sg, hsg, esg⟩ := blw_lt (((x) >>> ((nI i) &&& 31)) + (nI (7 * i))) (k := 30) (by decide) (by decide)
        refine lv_toI (z := nI (sg)) (esg) ?_
        refine lv_istore (lv' := [(12, .int (nI (sg))), (11, .int (nI i)), (0, .ref (AD 0)), (1, .ref (so)), (2, .int (x)), (5, .int (1)), (6, .int (nI (k)))]) hx hb dL_act_772 hl (by decide) rfl (fun ls hl => ?_)
        refine lv_aload_n hx hb dL_act_774 rfl (lv_at hl 3 rfl) ?_
        refine va_get (D := gD g) (ci := 4) (v := .ref (la)) (C := RX4) (T := TX4) (N := 2) hx hb hts iX4 hown hK.1 hW.1.1 0 rfl rfl 0 (by decide) f9 (fun _ h9 => h9) rfl dL_act_775 ?_
        refine lv_iload hx hb dL_act_778 (lv_at hl 6 rfl) ?_
        refine lv_aload_n hx hb dL_act_780 rfl (lv_at hl 3 rfl) ?_
        refine va_get (D := gD g) (ci := 4) (v := .ref (la)) (C := RX4) (T := TX4) (N := 2) hx hb hts iX4 hown hK.1 hW.1.1 0 rfl rfl 0 (by decide) f9 (fun _ h9 => h9) rfl dL_act_781 ?_
        refine lv_iload hx hb dL_act_784 (lv_at hl 6 rfl) ?_
        refine gt_A (k := k) (r := ra k) hx hb hK hW.1.2.1 rfl (by omega) (by omega) dL_act_786 ?_
        refine lv_iload hx hb dL_act_787 (lv_at hl 0 rfl) ?_
        have hsz9 := hS.1
        refine n_S (As := [.ref (ra k), .int (nI (sg))]) (rest := [.int (nI (k)), .ref (la)]) S (c_X4_with l g H.size (ra k) (LL k).1 (LL k).2.2 (nI (sg)) (by omega)) (va_cwS 2 hts gL_act_X4_with rfl rfl rfl (by decide +kernel) ⟨Nat.le_of_ble_eq_true rfl, Nat.le_of_ble_eq_true rfl⟩) hK (hW.2.2.1 k (by omega)).1 hS (fun q z => z.elim) (fun q hq => Or.inr hq) rfl hl.1 rfl (Nat.le_of_ble_eq_true rfl) dL_act_789 ⟨by show _ ≤ 7; omega, by show _ ≤ 220; omega⟩ (fun v H locs hpost hC hS => ?_)
        obtain ⟨X0, rfl, lX9, hX0⟩ := hpost
        have lX0 : s.heap.size ≤ X0 := Nat.le_trans hsz9 lX9
        have hDk := dk_kept hDk hC (fun _ _ z => z)
        have hZ := hZ.kept hC (fun _ z => z.elim)
        have hW := hW.keepN hC
        have hX9 := hX0
        have hlX := one_lt hX9
        refine pt_A (k := k) (n := lc) (f := fun i => some (ra i)) hx hb hK hW.1.2.1 hX9 hS (Or.inl (show B0 ≤ la by omega)) (by omega) (by omega) dL_act_792 (fun H locs hla hC hS => ?_)
        have hW := SW.set (w := (LL k).2.1) hW hC hX9 (by omega) (by omega) (by omega) hla
        have hDk := dk_kept hDk hC (fun k9 hk9 z => by have := hJD.2.1 k9 hk9; omega)
        have hZ := hZ.kept hC (fun q z => by subst z; omega)
        refine lv_aload_n hx hb dL_act_793 rfl (lv_at hl 2 rfl) ?_
        refine lv_iload hx hb dL_act_794 (lv_at hl 6 rfl) ?_
        refine lv_iload hx hb dL_act_796 (lv_at hl 0 rfl) ?_
        refine w_V (As := [.int (nI (k)), .int (nI (sg))]) (rest := []) S (c_X2_write l g AD LL EE LN lc ec hI.1 hI.2.1 hI.hLL hI.hEE k hk (nI sg) (hs_ok sg hsg) (by omega)) (cwV 2 hts gL_act_X2_write rfl rfl rfl (by decide +kernel) ⟨Nat.le_of_ble_eq_true rfl, Nat.le_of_ble_eq_true rfl⟩) hK (va_recv hK.1 hDk (ci := 2) (q0 := 0) rfl dk_me) hDk hJD.D hS (fun q hq => Or.inl (hJD.wA hq).1) rfl hl.1 rfl (Nat.le_of_ble_eq_true rfl) dL_act_798 ⟨by show _ ≤ 7; omega, by show _ ≤ 220; omega⟩ (fun H locs hDk hz1 hk1 hS => ?_)
        have hC : CH (wA (wsD g AD LL EE lc ec)) _ H := ⟨hz1, hk1⟩
        have hZ := hZ.kept hC (fun q z => (hJD.wA z).1)
        have hW := hW.keep hC (fun q h1 _ h2 => by have := hJD.wA h2; omega)
        refine lv_aload_n hx hb dL_act_801 rfl (lv_at hl 3 rfl) ?_
        refine va_get (D := gD g) (ci := 4) (v := .ref (la)) (C := RX4) (T := TX4) (N := 2) hx hb hts iX4 hown hK.1 hW.1.1 0 rfl rfl 0 (by decide) f9 (fun _ h9 => h9) rfl dL_act_802 ?_
        refine lv_iload hx hb dL_act_805 (lv_at hl 6 rfl) ?_
        refine gt_A (k := k) (r := (fup ra k X0) k) hx hb hK hW.1.2.1 rfl (by omega) (by omega) dL_act_807 ?_
        refine va_alen (v := nI (((fup LL k ((upd (LL k).1 (LL k).2.2 (nI (sg)), (LL k).2.1, (LL k).2.2 + 1) : ltT)) k).2.2)) hx hb hK.1 (hW.2.2.1 k (by omega)).1 0 0 rfl (ht := (rfl : (gTy g)[0]? = _)) rfl dL_act_808 ?_
        refine lv_toI (z := nI ((LL k).2.2 + 1)) (by rw [fup_at]) ?_
        refine br_eq (a := (LL k).2.2 + 1) (b := (LL k).2.2 + 1) (tgt := 814) hx hb (by omega) (by omega) dL_act_809 (by decide) (fun c809 => ?_) (fun c809 => ?_)
        · refine lv_iinc (v := nI (i + 1)) (lv' := [(11, .int (nI (i + 1))), (12, .int (nI (sg))), (0, .ref (AD 0)), (1, .ref (so)), (2, .int (x)), (5, .int (1)), (6, .int (nI (k)))]) hx hb dL_act_814 hl (k := 1) rfl (nI_1 _) (by decide) rfl (fun ls hl => ?_)
          refine lv_goto (tgt := 738) hx hb dL_act_817 (by decide) ?_
          have hI2 := hI.set (k := k) (lc2 := lc) (f := upd (LL k).1 (LL k).2.2 (nI (sg))) (w := (LL k).2.1) (n := (LL k).2.2 + 1) (Nat.le_refl _) hI.1 hk (Or.inl rfl) (by omega) (sg_upd (hI.sg hk) (by omega) (Or.inr ⟨rfl, rfl⟩))
          exact W.widen (by omega) (by omega) (ih (i + 1) _ _ H _ _ (by omega) (by omega) hI2 hDk hW hZ hS (lv_sub hl [0, 2, 3, 4, 5, 6] rfl))
        · exact absurd rfl c809
set_option maxHeartbeats 4000000 in
set_option maxRecDepth 100000 in
theorem act_735 {p : Program} {e : Env} {s : State} {m : MethodId} {args : Array Value} {below : List Frame} {meth : Method} {c : Code} {Q : State → Prop} (l : Launch) (hlt : l.stackTraces = false) (g : gT) {B0 B so : Nat} {AD : Nat → Nat} {LL : Nat → ltT} {EE : Nat → evT} {LN : Nat → Nat} {TT : Nat → (Nat → Int32) × Nat} {lc ec la ea : Nat} {ra xa ta : Nat → Nat} {x : Int32} (hx : p.tables.exec = Jvm.exec) (hb : c.code = cL_act) (hml : c.maxLocals = 13) (hts : ∀ w ∈ wsL_act, w.before args s = true) (hown : s.vm.findClass RL = some m.cls) (hK : KK g s) (hZ0 : ZB B0 s s.heap) (htab : c.exceptionTable.toList = tableOf [(17, 69, 822, 82), (70, 264, 822, 82), (265, 323, 822, 82), (324, 419, 822, 82), (420, 426, 822, 82), (427, 520, 822, 82), (521, 527, 822, 82), (528, 622, 822, 82), (623, 684, 822, 82), (685, 734, 822, 82), (735, 813, 822, 82), (814, 821, 822, 82)]) (hJD : JD B0 B AD) (hBH : B ≤ s.heap.size) (hI : Iv LL EE LN TT lc ec) (hDk0 : va_P (gD g) vwCl (wsD g AD LL EE lc ec) s.heap) (hW0 : SW g B so la ea ra xa ta LL EE TT lc ec s.heap)
    (hret : ∀ (pc : Nat) (ls : Array Slot) (H : Heap) (locs : List Loc) (LL2 : Nat → ltT) (EE2 : Nat → evT) (LN2 : Nat → Nat) (TT2 : Nat → (Nat → Int32) × Nat) (lc2 ec2 la2 ea2 : Nat) (ra2 xa2 ta2 : Nat → Nat), JW g B AD so LL2 EE2 LN2 TT2 lc2 ec2 la2 ea2 ra2 xa2 ta2 H → lc ≤ lc2 → 1 ≤ lc2 → va_S (fA (bA B0) s.heap.size) s.heap H locs → decode cL_act pc = .ok (.ireturn, 1) → W p l e { frames := 9, cells := 7, slots := 220, locals := 150 } s m args below meth c H locs 7 220 Q (F0 m pc ls [.int 1]))
    {r k sg pl : Nat} (hr : r < 18) (hk : k < lc) (hsg : sg < 30) (hpl : pl < (LL k).2.2 ∨ ((LL k).2.2 = 0 ∧ pl = 0)) (ls : Array Slot) (hl : lv_has ls 13 [(0, .ref (AD 0)), (1, .ref (so)), (2, .int (x)), (3, .int (nI (lc))), (4, .int (nI (r))), (5, .int (1)), (6, .int (nI (k))), (7, .ref (ra k)), (8, .int (nI ((LL k).2.2))), (9, .int (nI (sg))), (10, .int (nI (pl)))]) : W p l e { frames := 9, cells := 7, slots := 220, locals := 150 } s m args below meth c s.heap [] 0 0 Q (F0 m 735 ls []) := by
  refine lv_iconst (v := nI 0) hx hb dL_act_735 (by decide +kernel) ?_
  refine lv_istore (lv' := (11, .int (nI 0)) :: [(0, .ref (AD 0)), (1, .ref (so)), (2, .int (x)), (3, .int (nI (lc))), (4, .int (nI (r))), (5, .int (1)), (6, .int (nI (k))), (7, .ref (ra k)), (8, .int (nI ((LL k).2.2))), (9, .int (nI (sg))), (10, .int (nI (pl)))]) hx hb dL_act_736 hl (by decide) rfl (fun ls hl => ?_)
  exact act_738 l hlt g hx hb hml hts hown hK hZ0 htab hJD hBH hI hDk0 hW0 hret hk 6 0 LL ra s.heap [] ls (by omega) (by omega) hI hDk0 hW0 hZ0 va_S.rf (lv_sub hl [0, 1, 2, 3, 6, 7] rfl)

set_option maxHeartbeats 4000000 in
set_option maxRecDepth 100000 in
theorem act_139 {p : Program} {e : Env} {s : State} {m : MethodId} {args : Array Value} {below : List Frame} {meth : Method} {c : Code} {Q : State → Prop} (l : Launch) (hlt : l.stackTraces = false) (g : gT) {B0 B so : Nat} {AD : Nat → Nat} {LL : Nat → ltT} {EE : Nat → evT} {LN : Nat → Nat} {TT : Nat → (Nat → Int32) × Nat} {lc ec la ea : Nat} {ra xa ta : Nat → Nat} {x : Int32} (hx : p.tables.exec = Jvm.exec) (hb : c.code = cL_act) (hml : c.maxLocals = 13) (hts : ∀ w ∈ wsL_act, w.before args s = true) (hown : s.vm.findClass RL = some m.cls) (hK : KK g s) (hZ0 : ZB B0 s s.heap) (htab : c.exceptionTable.toList = tableOf [(17, 69, 822, 82), (70, 264, 822, 82), (265, 323, 822, 82), (324, 419, 822, 82), (420, 426, 822, 82), (427, 520, 822, 82), (521, 527, 822, 82), (528, 622, 822, 82), (623, 684, 822, 82), (685, 734, 822, 82), (735, 813, 822, 82), (814, 821, 822, 82)]) (hJD : JD B0 B AD) (hBH : B ≤ s.heap.size) (hI : Iv LL EE LN TT lc ec) (hDk0 : va_P (gD g) vwCl (wsD g AD LL EE lc ec) s.heap) (hW0 : SW g B so la ea ra xa ta LL EE TT lc ec s.heap)
    (hret : ∀ (pc : Nat) (ls : Array Slot) (H : Heap) (locs : List Loc) (LL2 : Nat → ltT) (EE2 : Nat → evT) (LN2 : Nat → Nat) (TT2 : Nat → (Nat → Int32) × Nat) (lc2 ec2 la2 ea2 : Nat) (ra2 xa2 ta2 : Nat → Nat), JW g B AD so LL2 EE2 LN2 TT2 lc2 ec2 la2 ea2 ra2 xa2 ta2 H → lc ≤ lc2 → 1 ≤ lc2 → va_S (fA (bA B0) s.heap.size) s.heap H locs → decode cL_act pc = .ok (.ireturn, 1) → W p l e { frames := 9, cells := 7, slots := 220, locals := 150 } s m args below meth c H locs 7 220 Q (F0 m pc ls [.int 1]))
    {r k sg pl : Nat} (hr : r < 18) (hk : k < lc) (hsg : sg < 30) (hpl : pl < (LL k).2.2 ∨ ((LL k).2.2 = 0 ∧ pl = 0)) (hr0 : 0 < r) (ls : Array Slot) (hl : lv_has ls 13 [(0, .ref (AD 0)), (1, .ref (so)), (2, .int (x)), (3, .int (nI (lc))), (4, .int (nI (r))), (5, .int (1)), (6, .int (nI (k))), (7, .ref (ra k)), (8, .int (nI ((LL k).2.2))), (9, .int (nI (sg))), (10, .int (nI (pl)))]) : W p l e { frames := 9, cells := 7, slots := 220, locals := 150 } s m args below meth c s.heap [] 0 0 Q (F0 m 139 ls []) := by
  refine lv_iload hx hb dL_act_139 (lv_at hl 4 rfl) ?_
  have hrr : (nI r).toInt = r := nI_toInt (by omega)
  have h17 : r = 1 ∨ r = 2 ∨ r = 3 ∨ r = 4 ∨ r = 5 ∨ r = 6 ∨ r = 7 ∨ r = 8 ∨ r = 9 ∨ r = 10 ∨ r = 11 ∨ r = 12 ∨ r = 13 ∨ r = 14 ∨ r = 15 ∨ r = 16 ∨ r = 17 := by omega
  rcases h17 with h | h | h | h | h | h | h | h | h | h | h | h | h | h | h | h | h
  · exact lv_tableIn hx hb dL_act_141 (tgt := 220) (off := 79) (by rw [hrr]; omega) (by rw [hrr]; omega) (by rw [hrr, h]; rfl) (by decide) (act_220 l hlt g hx hb hml hts hown hK hZ0 htab hJD hBH hI hDk0 hW0 hret hr hk hsg hpl ls hl)
  · exact lv_tableIn hx hb dL_act_141 (tgt := 265) (off := 124) (by rw [hrr]; omega) (by rw [hrr]; omega) (by rw [hrr, h]; rfl) (by decide) (act_265 l hlt g hx hb hml hts hown hK hZ0 htab hJD hBH hI hDk0 hW0 hret hr hk hsg hpl ls hl)
  · exact lv_tableIn hx hb dL_act_141 (tgt := 265) (off := 124) (by rw [hrr]; omega) (by rw [hrr]; omega) (by rw [hrr, h]; rfl) (by decide) (act_265 l hlt g hx hb hml hts hown hK hZ0 htab hJD hBH hI hDk0 hW0 hret hr hk hsg hpl ls hl)
  · exact lv_tableIn hx hb dL_act_141 (tgt := 265) (off := 124) (by rw [hrr]; omega) (by rw [hrr]; omega) (by rw [hrr, h]; rfl) (by decide) (act_265 l hlt g hx hb hml hts hown hK hZ0 htab hJD hBH hI hDk0 hW0 hret hr hk hsg hpl ls hl)
  · exact lv_tableIn hx hb dL_act_141 (tgt := 265) (off := 124) (by rw [hrr]; omega) (by rw [hrr]; omega) (by rw [hrr, h]; rfl) (by decide) (act_265 l hlt g hx hb hml hts hown hK hZ0 htab hJD hBH hI hDk0 hW0 hret hr hk hsg hpl ls hl)
  · exact lv_tableIn hx hb dL_act_141 (tgt := 265) (off := 124) (by rw [hrr]; omega) (by rw [hrr]; omega) (by rw [hrr, h]; rfl) (by decide) (act_265 l hlt g hx hb hml hts hown hK hZ0 htab hJD hBH hI hDk0 hW0 hret hr hk hsg hpl ls hl)
  · exact lv_tableIn hx hb dL_act_141 (tgt := 265) (off := 124) (by rw [hrr]; omega) (by rw [hrr]; omega) (by rw [hrr, h]; rfl) (by decide) (act_265 l hlt g hx hb hml hts hown hK hZ0 htab hJD hBH hI hDk0 hW0 hret hr hk hsg hpl ls hl)
  · exact lv_tableIn hx hb dL_act_141 (tgt := 324) (off := 183) (by rw [hrr]; omega) (by rw [hrr]; omega) (by rw [hrr, h]; rfl) (by decide) (act_324 l hlt g hx hb hml hts hown hK hZ0 htab hJD hBH hI hDk0 hW0 hret hr hk hsg hpl ls hl)
  · exact lv_tableIn hx hb dL_act_141 (tgt := 420) (off := 279) (by rw [hrr]; omega) (by rw [hrr]; omega) (by rw [hrr, h]; rfl) (by decide) (act_420 l hlt g hx hb hml hts hown hK hZ0 htab hJD hBH hI hDk0 hW0 hret hr hk hsg hpl ls hl)
  · exact lv_tableIn hx hb dL_act_141 (tgt := 420) (off := 279) (by rw [hrr]; omega) (by rw [hrr]; omega) (by rw [hrr, h]; rfl) (by decide) (act_420 l hlt g hx hb hml hts hown hK hZ0 htab hJD hBH hI hDk0 hW0 hret hr hk hsg hpl ls hl)
  · exact lv_tableIn hx hb dL_act_141 (tgt := 521) (off := 380) (by rw [hrr]; omega) (by rw [hrr]; omega) (by rw [hrr, h]; rfl) (by decide) (act_521 l hlt g hx hb hml hts hown hK hZ0 htab hJD hBH hI hDk0 hW0 hret hr hk hsg hpl ls hl)
  · exact lv_tableIn hx hb dL_act_141 (tgt := 521) (off := 380) (by rw [hrr]; omega) (by rw [hrr]; omega) (by rw [hrr, h]; rfl) (by decide) (act_521 l hlt g hx hb hml hts hown hK hZ0 htab hJD hBH hI hDk0 hW0 hret hr hk hsg hpl ls hl)
  · exact lv_tableIn hx hb dL_act_141 (tgt := 623) (off := 482) (by rw [hrr]; omega) (by rw [hrr]; omega) (by rw [hrr, h]; rfl) (by decide) (act_623 l hlt g hx hb hml hts hown hK hZ0 htab hJD hBH hI hDk0 hW0 hret hr hk hsg hpl ls hl)
  · exact lv_tableIn hx hb dL_act_141 (tgt := 623) (off := 482) (by rw [hrr]; omega) (by rw [hrr]; omega) (by rw [hrr, h]; rfl) (by decide) (act_623 l hlt g hx hb hml hts hown hK hZ0 htab hJD hBH hI hDk0 hW0 hret hr hk hsg hpl ls hl)
  · exact lv_tableIn hx hb dL_act_141 (tgt := 623) (off := 482) (by rw [hrr]; omega) (by rw [hrr]; omega) (by rw [hrr, h]; rfl) (by decide) (act_623 l hlt g hx hb hml hts hown hK hZ0 htab hJD hBH hI hDk0 hW0 hret hr hk hsg hpl ls hl)
  · exact lv_tableIn hx hb dL_act_141 (tgt := 685) (off := 544) (by rw [hrr]; omega) (by rw [hrr]; omega) (by rw [hrr, h]; rfl) (by decide) (act_685 l hlt g hx hb hml hts hown hK hZ0 htab hJD hBH hI hDk0 hW0 hret hr hk hsg hpl ls hl)
  · exact lv_tableOut hx hb dL_act_141 (tgt := 735) (by rw [hrr]; omega) (by decide) (act_735 l hlt g hx hb hml hts hown hK hZ0 htab hJD hBH hI hDk0 hW0 hret hr hk hsg hpl ls hl)

set_option maxHeartbeats 4000000 in
set_option maxRecDepth 100000 in
theorem act_70 {p : Program} {e : Env} {s : State} {m : MethodId} {args : Array Value} {below : List Frame} {meth : Method} {c : Code} {Q : State → Prop} (l : Launch) (hlt : l.stackTraces = false) (g : gT) {B0 B so : Nat} {AD : Nat → Nat} {LL : Nat → ltT} {EE : Nat → evT} {LN : Nat → Nat} {TT : Nat → (Nat → Int32) × Nat} {lc ec la ea : Nat} {ra xa ta : Nat → Nat} {x : Int32} (hx : p.tables.exec = Jvm.exec) (hb : c.code = cL_act) (hml : c.maxLocals = 13) (hts : ∀ w ∈ wsL_act, w.before args s = true) (hown : s.vm.findClass RL = some m.cls) (hK : KK g s) (hZ0 : ZB B0 s s.heap) (htab : c.exceptionTable.toList = tableOf [(17, 69, 822, 82), (70, 264, 822, 82), (265, 323, 822, 82), (324, 419, 822, 82), (420, 426, 822, 82), (427, 520, 822, 82), (521, 527, 822, 82), (528, 622, 822, 82), (623, 684, 822, 82), (685, 734, 822, 82), (735, 813, 822, 82), (814, 821, 822, 82)]) (hJD : JD B0 B AD) (hBH : B ≤ s.heap.size) (hI : Iv LL EE LN TT lc ec) (hDk0 : va_P (gD g) vwCl (wsD g AD LL EE lc ec) s.heap) (hW0 : SW g B so la ea ra xa ta LL EE TT lc ec s.heap)
    (hret : ∀ (pc : Nat) (ls : Array Slot) (H : Heap) (locs : List Loc) (LL2 : Nat → ltT) (EE2 : Nat → evT) (LN2 : Nat → Nat) (TT2 : Nat → (Nat → Int32) × Nat) (lc2 ec2 la2 ea2 : Nat) (ra2 xa2 ta2 : Nat → Nat), JW g B AD so LL2 EE2 LN2 TT2 lc2 ec2 la2 ea2 ra2 xa2 ta2 H → lc ≤ lc2 → 1 ≤ lc2 → va_S (fA (bA B0) s.heap.size) s.heap H locs → decode cL_act pc = .ok (.ireturn, 1) → W p l e { frames := 9, cells := 7, slots := 220, locals := 150 } s m args below meth c H locs 7 220 Q (F0 m pc ls [.int 1]))
    {r : Nat} (hr : r < 18) (hr0 : 0 < r) (hn0 : 0 < lc) (ls : Array Slot) (hl : lv_has ls 13 [(0, .ref (AD 0)), (1, .ref (so)), (2, .int (x)), (3, .int (nI (lc))), (4, .int (nI (r))), (5, .int (1))]) : W p l e { frames := 9, cells := 7, slots := 220, locals := 150 } s m args below meth c s.heap [] 0 0 Q (F0 m 70 ls []) := by
  have S : CallFix p m c cL_act 13 s args wsL_act RL := ⟨hx, hb, hml, hown, hts⟩
  have hlc12 := hI.1
  have hec24 := hI.2.1
  have hBso : B ≤ so := hW0.2.1.1
  have hBla : B ≤ la := hW0.2.1.2.1
  have hB0B : B0 ≤ B := hJD.2.2
  have hlso := one_lt hW0.1.1
  have hlla := one_lt hW0.1.2.1
  have hW := hW0
  have iX4 : ∀ w ∈ u_ws RX4 TX4 2, w ∈ wsL_act := by decide +kernel
  have f9 := hts (.fieldLink RL 9 "LetterSealsLaw$Sim" "letters" "[[I") (by decide +kernel)
  refine lv_iload_n hx hb dL_act_70 rfl (lv_at hl 2 rfl) ?_
  refine lv_iconst (v := 5) hx hb dL_act_71 (by decide +kernel) ?_
  refine lv_ishr hx hb dL_act_72 ?_
  refine lv_iload_n hx hb dL_act_73 rfl (lv_at hl 3 rfl) ?_
  refine p_S (As := [.int ((x) >>> ((5) &&& 31)), .int (nI (lc))]) (rest := []) S (c_L_below l g ((x) >>> ((5) &&& 31)) lc (by omega) (by omega)) (va_cwS 2 hts gL_act_L_below rfl rfl rfl (by decide +kernel) ⟨Nat.le_of_ble_eq_true rfl, Nat.le_of_ble_eq_true rfl⟩) hK (trivial) rfl hl.1 rfl (Nat.le_of_ble_eq_true rfl) dL_act_74 ⟨by show _ ≤ 7; omega, by show _ ≤ 220; omega⟩ ?_
  obtain ⟨k, hk, ek⟩ := blw_lt ((x) >>> ((5) &&& 31)) (k := lc) (by omega) (by omega)
  refine lv_toI (z := nI (k)) (ek) ?_
  have hle := hI.le hk
  refine lv_istore (lv' := [(6, .int (nI (k))), (0, .ref (AD 0)), (1, .ref (so)), (2, .int (x)), (3, .int (nI (lc))), (4, .int (nI (r))), (5, .int (1))]) hx hb dL_act_77 hl (by decide) rfl (fun ls hl => ?_)
  refine lv_aload_n hx hb dL_act_79 rfl (lv_at hl 2 rfl) ?_
  refine va_get (D := gD g) (ci := 4) (v := .ref (la)) (C := RX4) (T := TX4) (N := 2) hx hb hts iX4 hown hK.1 hW.1.1 0 rfl rfl 0 (by decide) f9 (fun _ h9 => h9) rfl dL_act_80 ?_
  refine lv_iload hx hb dL_act_83 (lv_at hl 0 rfl) ?_
  refine gt_A (k := k) (r := ra k) hx hb hK hW.1.2.1 rfl (by omega) (by omega) dL_act_85 ?_
  refine lv_astore (lv' := [(7, .ref (ra k)), (6, .int (nI (k))), (0, .ref (AD 0)), (1, .ref (so)), (2, .int (x)), (3, .int (nI (lc))), (4, .int (nI (r))), (5, .int (1))]) hx hb dL_act_86 hl (by decide) rfl (fun ls hl => ?_)
  refine lv_aload hx hb dL_act_88 (lv_at hl 0 rfl) ?_
  refine va_alen (v := nI ((LL k).2.2)) hx hb hK.1 (hW.2.2.1 k (by omega)).1 0 0 rfl (ht := (rfl : (gTy g)[0]? = _)) rfl dL_act_90 ?_
  refine lv_istore (lv' := [(8, .int (nI ((LL k).2.2))), (7, .ref (ra k)), (6, .int (nI (k))), (0, .ref (AD 0)), (1, .ref (so)), (2, .int (x)), (3, .int (nI (lc))), (4, .int (nI (r))), (5, .int (1))]) hx hb dL_act_91 hl (by decide) rfl (fun ls hl => ?_)
  refine lv_iload_n hx hb dL_act_93 rfl (lv_at hl 5 rfl) ?_
  refine lv_bipush (v := 8) hx hb dL_act_94 (by decide +kernel) ?_
  refine lv_ishr hx hb dL_act_96 ?_
  refine lv_iload_n hx hb dL_act_97 rfl (lv_at hl 5 rfl) ?_
  refine lv_bipush (v := 6) hx hb dL_act_98 (by decide +kernel) ?_
  refine lv_ishr hx hb dL_act_100 ?_
  refine lv_iconst (v := nI (2)) hx hb dL_act_101 (by decide +kernel) ?_
  refine p_S (As := [.int ((x) >>> ((6) &&& 31)), .int (nI (2))]) (rest := [.int ((x) >>> ((8) &&& 31))]) S (c_L_below l g ((x) >>> ((6) &&& 31)) 2 (by omega) (by omega)) (va_cwS 2 hts gL_act_L_below rfl rfl rfl (by decide +kernel) ⟨Nat.le_of_ble_eq_true rfl, Nat.le_of_ble_eq_true rfl⟩) hK (trivial) rfl hl.1 rfl (Nat.le_of_ble_eq_true rfl) dL_act_102 ⟨by show _ ≤ 7; omega, by show _ ≤ 220; omega⟩ ?_
  obtain ⟨b2, hb2, eb2⟩ := blw_lt ((x) >>> ((6) &&& 31)) (k := 2) (by omega) (by omega)
  refine lv_toI (z := nI (b2)) (eb2) ?_
  refine br_ne0 (a := b2) (tgt := 113) hx hb (by omega) dL_act_105 (by decide) (fun c105 => ?_) (fun c105 => ?_)
  · refine lv_iconst (v := nI (3)) hx hb dL_act_113 (by decide +kernel) ?_
    refine p_S (As := [.int ((x) >>> ((8) &&& 31)), .int (nI (3))]) (rest := []) S (c_L_below l g ((x) >>> ((8) &&& 31)) 3 (by omega) (by omega)) (va_cwS 2 hts gL_act_L_below rfl rfl rfl (by decide +kernel) ⟨Nat.le_of_ble_eq_true rfl, Nat.le_of_ble_eq_true rfl⟩) hK (trivial) rfl hl.1 rfl (Nat.le_of_ble_eq_true rfl) dL_act_114 ⟨by show _ ≤ 7; omega, by show _ ≤ 220; omega⟩ ?_
    obtain ⟨sg, hsg, esg⟩ := blw_lt ((x) >>> ((8) &&& 31)) (k := 3) (by omega) (by omega)
    refine lv_toI (z := nI (sg)) (esg) ?_
    refine lv_istore (lv' := [(9, .int (nI (sg))), (8, .int (nI ((LL k).2.2))), (7, .ref (ra k)), (6, .int (nI (k))), (0, .ref (AD 0)), (1, .ref (so)), (2, .int (x)), (3, .int (nI (lc))), (4, .int (nI (r))), (5, .int (1))]) hx hb dL_act_117 hl (by decide) rfl (fun ls hl => ?_)
    refine lv_iload hx hb dL_act_119 (lv_at hl 1 rfl) ?_
    refine br_ne0 (a := (LL k).2.2) (tgt := 128) hx hb (by omega) dL_act_121 (by decide) (fun c121 => ?_) (fun c121 => ?_)
    · refine lv_iload_n hx hb dL_act_128 rfl (lv_at hl 6 rfl) ?_
      refine lv_bipush (v := 7) hx hb dL_act_129 (by decide +kernel) ?_
      refine lv_ishr hx hb dL_act_131 ?_
      refine lv_iload hx hb dL_act_132 (lv_at hl 1 rfl) ?_
      refine p_S (As := [.int ((x) >>> ((7) &&& 31)), .int (nI ((LL k).2.2))]) (rest := []) S (c_L_below l g ((x) >>> ((7) &&& 31)) ((LL k).2.2) (by omega) (by omega)) (va_cwS 2 hts gL_act_L_below rfl rfl rfl (by decide +kernel) ⟨Nat.le_of_ble_eq_true rfl, Nat.le_of_ble_eq_true rfl⟩) hK (trivial) rfl hl.1 rfl (Nat.le_of_ble_eq_true rfl) dL_act_134 ⟨by show _ ≤ 7; omega, by show _ ≤ 220; omega⟩ ?_
      obtain ⟨pl, hpl, epl⟩ := blw_lt ((x) >>> ((7) &&& 31)) (k := (LL k).2.2) (by omega) (by omega)
      refine lv_toI (z := nI (pl)) (epl) ?_
      refine lv_istore (lv' := [(10, .int (nI (pl))), (9, .int (nI (sg))), (8, .int (nI ((LL k).2.2))), (7, .ref (ra k)), (6, .int (nI (k))), (0, .ref (AD 0)), (1, .ref (so)), (2, .int (x)), (3, .int (nI (lc))), (4, .int (nI (r))), (5, .int (1))]) hx hb dL_act_137 hl (by decide) rfl (fun ls hl => ?_)
      exact act_139 (sg := sg) (pl := pl) l hlt g hx hb hml hts hown hK hZ0 htab hJD hBH hI hDk0 hW0 hret hr hk (by omega) (by omega) hr0 ls (lv_sub hl [5, 6, 7, 8, 9, 10, 4, 3, 2, 1, 0] rfl)
    · refine lv_iconst (v := nI (0)) hx hb dL_act_124 (by decide +kernel) ?_
      refine lv_goto (tgt := 137) hx hb dL_act_125 (by decide) ?_
      refine lv_istore (lv' := [(10, .int (nI (0))), (9, .int (nI (sg))), (8, .int (nI ((LL k).2.2))), (7, .ref (ra k)), (6, .int (nI (k))), (0, .ref (AD 0)), (1, .ref (so)), (2, .int (x)), (3, .int (nI (lc))), (4, .int (nI (r))), (5, .int (1))]) hx hb dL_act_137 hl (by decide) rfl (fun ls hl => ?_)
      exact act_139 (sg := sg) (pl := 0) l hlt g hx hb hml hts hown hK hZ0 htab hJD hBH hI hDk0 hW0 hret hr hk (by omega) (by omega) hr0 ls (lv_sub hl [5, 6, 7, 8, 9, 10, 4, 3, 2, 1, 0] rfl)
  · refine lv_bipush (v := nI (30)) hx hb dL_act_108 (by decide +kernel) ?_
    refine lv_goto (tgt := 114) hx hb dL_act_110 (by decide) ?_
    refine p_S (As := [.int ((x) >>> ((8) &&& 31)), .int (nI (30))]) (rest := []) S (c_L_below l g ((x) >>> ((8) &&& 31)) 30 (by omega) (by omega)) (va_cwS 2 hts gL_act_L_below rfl rfl rfl (by decide +kernel) ⟨Nat.le_of_ble_eq_true rfl, Nat.le_of_ble_eq_true rfl⟩) hK (trivial) rfl hl.1 rfl (Nat.le_of_ble_eq_true rfl) dL_act_114 ⟨by show _ ≤ 7; omega, by show _ ≤ 220; omega⟩ ?_
    obtain ⟨sg, hsg, esg⟩ := blw_lt ((x) >>> ((8) &&& 31)) (k := 30) (by omega) (by omega)
    refine lv_toI (z := nI (sg)) (esg) ?_
    refine lv_istore (lv' := [(9, .int (nI (sg))), (8, .int (nI ((LL k).2.2))), (7, .ref (ra k)), (6, .int (nI (k))), (0, .ref (AD 0)), (1, .ref (so)), (2, .int (x)), (3, .int (nI (lc))), (4, .int (nI (r))), (5, .int (1))]) hx hb dL_act_117 hl (by decide) rfl (fun ls hl => ?_)
    refine lv_iload hx hb dL_act_119 (lv_at hl 1 rfl) ?_
    refine br_ne0 (a := (LL k).2.2) (tgt := 128) hx hb (by omega) dL_act_121 (by decide) (fun c121 => ?_) (fun c121 => ?_)
    · refine lv_iload_n hx hb dL_act_128 rfl (lv_at hl 6 rfl) ?_
      refine lv_bipush (v := 7) hx hb dL_act_129 (by decide +kernel) ?_
      refine lv_ishr hx hb dL_act_131 ?_
      refine lv_iload hx hb dL_act_132 (lv_at hl 1 rfl) ?_
      refine p_S (As := [.int ((x) >>> ((7) &&& 31)), .int (nI ((LL k).2.2))]) (rest := []) S (c_L_below l g ((x) >>> ((7) &&& 31)) ((LL k).2.2) (by omega) (by omega)) (va_cwS 2 hts gL_act_L_below rfl rfl rfl (by decide +kernel) ⟨Nat.le_of_ble_eq_true rfl, Nat.le_of_ble_eq_true rfl⟩) hK (trivial) rfl hl.1 rfl (Nat.le_of_ble_eq_true rfl) dL_act_134 ⟨by show _ ≤ 7; omega, by show _ ≤ 220; omega⟩ ?_
      obtain ⟨pl, hpl, epl⟩ := blw_lt ((x) >>> ((7) &&& 31)) (k := (LL k).2.2) (by omega) (by omega)
      refine lv_toI (z := nI (pl)) (epl) ?_
      refine lv_istore (lv' := [(10, .int (nI (pl))), (9, .int (nI (sg))), (8, .int (nI ((LL k).2.2))), (7, .ref (ra k)), (6, .int (nI (k))), (0, .ref (AD 0)), (1, .ref (so)), (2, .int (x)), (3, .int (nI (lc))), (4, .int (nI (r))), (5, .int (1))]) hx hb dL_act_137 hl (by decide) rfl (fun ls hl => ?_)
      exact act_139 (sg := sg) (pl := pl) l hlt g hx hb hml hts hown hK hZ0 htab hJD hBH hI hDk0 hW0 hret hr hk (by omega) (by omega) hr0 ls (lv_sub hl [5, 6, 7, 8, 9, 10, 4, 3, 2, 1, 0] rfl)
    · refine lv_iconst (v := nI (0)) hx hb dL_act_124 (by decide +kernel) ?_
      refine lv_goto (tgt := 137) hx hb dL_act_125 (by decide) ?_
      refine lv_istore (lv' := [(10, .int (nI (0))), (9, .int (nI (sg))), (8, .int (nI ((LL k).2.2))), (7, .ref (ra k)), (6, .int (nI (k))), (0, .ref (AD 0)), (1, .ref (so)), (2, .int (x)), (3, .int (nI (lc))), (4, .int (nI (r))), (5, .int (1))]) hx hb dL_act_137 hl (by decide) rfl (fun ls hl => ?_)
      exact act_139 (sg := sg) (pl := 0) l hlt g hx hb hml hts hown hK hZ0 htab hJD hBH hI hDk0 hW0 hret hr hk (by omega) (by omega) hr0 ls (lv_sub hl [5, 6, 7, 8, 9, 10, 4, 3, 2, 1, 0] rfl)

set_option maxHeartbeats 4000000 in
set_option maxRecDepth 100000 in
theorem act_0 {p : Program} {e : Env} {s : State} {m : MethodId} {args : Array Value} {below : List Frame} {meth : Method} {c : Code} {Q : State → Prop} (l : Launch) (hlt : l.stackTraces = false) (g : gT) {B0 B so : Nat} {AD : Nat → Nat} {LL : Nat → ltT} {EE : Nat → evT} {LN : Nat → Nat} {TT : Nat → (Nat → Int32) × Nat} {lc ec la ea : Nat} {ra xa ta : Nat → Nat} {x : Int32} (hx : p.tables.exec = Jvm.exec) (hb : c.code = cL_act) (hml : c.maxLocals = 13) (hts : ∀ w ∈ wsL_act, w.before args s = true) (hown : s.vm.findClass RL = some m.cls) (hK : KK g s) (hZ0 : ZB B0 s s.heap) (htab : c.exceptionTable.toList = tableOf [(17, 69, 822, 82), (70, 264, 822, 82), (265, 323, 822, 82), (324, 419, 822, 82), (420, 426, 822, 82), (427, 520, 822, 82), (521, 527, 822, 82), (528, 622, 822, 82), (623, 684, 822, 82), (685, 734, 822, 82), (735, 813, 822, 82), (814, 821, 822, 82)]) (hJD : JD B0 B AD) (hBH : B ≤ s.heap.size) (hI : Iv LL EE LN TT lc ec) (hDk0 : va_P (gD g) vwCl (wsD g AD LL EE lc ec) s.heap) (hW0 : SW g B so la ea ra xa ta LL EE TT lc ec s.heap)
    (hret : ∀ (pc : Nat) (ls : Array Slot) (H : Heap) (locs : List Loc) (LL2 : Nat → ltT) (EE2 : Nat → evT) (LN2 : Nat → Nat) (TT2 : Nat → (Nat → Int32) × Nat) (lc2 ec2 la2 ea2 : Nat) (ra2 xa2 ta2 : Nat → Nat), JW g B AD so LL2 EE2 LN2 TT2 lc2 ec2 la2 ea2 ra2 xa2 ta2 H → lc ≤ lc2 → 1 ≤ lc2 → va_S (fA (bA B0) s.heap.size) s.heap H locs → decode cL_act pc = .ok (.ireturn, 1) → W p l e { frames := 9, cells := 7, slots := 220, locals := 150 } s m args below meth c H locs 7 220 Q (F0 m pc ls [.int 1]))
     (ls : Array Slot) (hl : lv_has ls 13 [(0, .ref (AD 0)), (1, .ref (so)), (2, .int (x))]) : W p l e { frames := 9, cells := 7, slots := 220, locals := 150 } s m args below meth c s.heap [] 0 0 Q (F0 m 0 ls []) := by
  have S : CallFix p m c cL_act 13 s args wsL_act RL := ⟨hx, hb, hml, hown, hts⟩
  have hlc12 := hI.1
  have hec24 := hI.2.1
  have hBso : B ≤ so := hW0.2.1.1
  have hBla : B ≤ la := hW0.2.1.2.1
  have hB0B : B0 ≤ B := hJD.2.2
  have hlso := one_lt hW0.1.1
  have hlla := one_lt hW0.1.2.1
  have hW := hW0
  have iX4 : ∀ w ∈ u_ws RX4 TX4 2, w ∈ wsL_act := by decide +kernel
  have f9 := hts (.fieldLink RL 9 "LetterSealsLaw$Sim" "letters" "[[I") (by decide +kernel)
  refine lv_aload_n hx hb dL_act_0 rfl (lv_at hl 1 rfl) ?_
  refine va_get (D := gD g) (ci := 4) (v := .ref (la)) (C := RX4) (T := TX4) (N := 2) hx hb hts iX4 hown hK.1 hW.1.1 0 rfl rfl 0 (by decide) f9 (fun _ h9 => h9) rfl dL_act_1 ?_
  refine va_alen (v := nI (lc)) hx hb hK.1 hW.1.2.1 0 3 rfl (ht := (rfl : (gTy g)[3]? = _)) rfl dL_act_4 ?_
  refine lv_istore_n (lv' := [(3, .int (nI (lc))), (0, .ref (AD 0)), (1, .ref (so)), (2, .int (x))]) hx hb dL_act_5 rfl hl (by decide) rfl (fun ls hl => ?_)
  refine lv_iload_n hx hb dL_act_6 rfl (lv_at hl 3 rfl) ?_
  refine lv_bipush (v := nI (18)) hx hb dL_act_7 (by decide +kernel) ?_
  refine p_S (As := [.int (x), .int (nI (18))]) (rest := []) S (c_L_below l g (x) 18 (by omega) (by omega)) (va_cwS 2 hts gL_act_L_below rfl rfl rfl (by decide +kernel) ⟨Nat.le_of_ble_eq_true rfl, Nat.le_of_ble_eq_true rfl⟩) hK (trivial) rfl hl.1 rfl (Nat.le_of_ble_eq_true rfl) dL_act_9 ⟨by show _ ≤ 7; omega, by show _ ≤ 220; omega⟩ ?_
  obtain ⟨r, hr, er⟩ := blw_lt (x) (k := 18) (by omega) (by omega)
  refine lv_toI (z := nI (r)) (er) ?_
  refine lv_istore (lv' := [(4, .int (nI (r))), (3, .int (nI (lc))), (0, .ref (AD 0)), (1, .ref (so)), (2, .int (x))]) hx hb dL_act_12 hl (by decide) rfl (fun ls hl => ?_)
  refine lv_iconst (v := 1) hx hb dL_act_14 (by decide +kernel) ?_
  refine lv_istore (lv' := [(5, .int (1)), (4, .int (nI (r))), (3, .int (nI (lc))), (0, .ref (AD 0)), (1, .ref (so)), (2, .int (x))]) hx hb dL_act_15 hl (by decide) rfl (fun ls hl => ?_)
  refine lv_iload_n hx hb dL_act_17 rfl (lv_at hl 2 rfl) ?_
  refine br_eq0 (a := lc) (tgt := 26) hx hb (by omega) dL_act_18 (by decide) (fun c18 => ?_) (fun c18 => ?_)
  · exact act_26 (r := r) l hlt g hx hb hml hts hown hK hZ0 htab hJD hBH hI hDk0 hW0 hret ls (lv_sub hl [3, 4, 5, 2, 1, 0] rfl)
  · refine lv_iload hx hb dL_act_21 (lv_at hl 1 rfl) ?_
    refine br_ne0 (a := r) (tgt := 70) hx hb (by omega) dL_act_23 (by decide) (fun c23 => ?_) (fun c23 => ?_)
    · exact act_70 (r := r) l hlt g hx hb hml hts hown hK hZ0 htab hJD hBH hI hDk0 hW0 hret hr (by omega) (by omega) ls (lv_sub hl [3, 4, 5, 2, 1, 0] rfl)
    · exact act_26 (r := r) l hlt g hx hb hml hts hown hK hZ0 htab hJD hBH hI hDk0 hW0 hret ls (lv_sub hl [3, 4, 5, 2, 1, 0] rfl)

set_option maxHeartbeats 4000000 in
set_option maxRecDepth 100000 in
/-- act(desk, desk by hand, x): the answer is true, and both desks are alike again -/
theorem c_L_act (l : Launch) (hlt : l.stackTraces = false) (g : gT) (sz : Nat) {B0 B so : Nat} {AD : Nat → Nat} {LL : Nat → ltT} {EE : Nat → evT} {LN : Nat → Nat} {TT : Nat → (Nat → Int32) × Nat} {lc ec la ea : Nat} {ra xa ta : Nat → Nat} (x : Int32) (hJD : JD B0 B AD) : aM g l yL_act wsL_act { frames := 9, cells := 7, slots := 220, locals := 150 } [.ref (AD 0), .ref so, .int x] sz B0 (fun H => JW g B AD so LL EE LN TT lc ec la ea ra xa ta H ∧ B ≤ sz) (fun v H => v = some (.int 1) ∧ ∃ (LL2 : Nat → ltT) (EE2 : Nat → evT) (LN2 : Nat → Nat) (TT2 : Nat → (Nat → Int32) × Nat) (lc2 ec2 la2 ea2 : Nat) (ra2 xa2 ta2 : Nat → Nat), JW g B AD so LL2 EE2 LN2 TT2 lc2 ec2 la2 ea2 ra2 xa2 ta2 H ∧ lc ≤ lc2 ∧ 1 ≤ lc2) 7 220 := by
  refine ar_ofT (cc := cL_act) (maxL := 13) (hh := [(17, 69, 822, 82), (70, 264, 822, 82), (265, 323, 822, 82), (324, 419, 822, 82), (420, 426, 822, 82), (427, 520, 822, 82), (521, 527, 822, 82), (528, 622, 822, 82), (623, 684, 822, 82), (685, 734, 822, 82), (735, 813, 822, 82), (814, 821, 822, 82)]) (by decide) rfl (Nat.le_of_ble_eq_true rfl) ?_
  intro p e s m args below meth c ls Q hx hb hml hts hown hK hsz hZ hP htab hl hret
  subst hsz
  obtain ⟨⟨hI, hDk0, hW0⟩, hBH⟩ := hP
  exact act_0 l hlt g hx hb hml hts hown hK hZ htab hJD hBH hI hDk0 hW0 (fun pc ls H locs LL2 EE2 LN2 TT2 lc2 ec2 la2 ea2 ra2 xa2 ta2 hJ h1 h2 hS hd => hret pc ls H locs ⟨rfl, LL2, EE2, LN2, TT2, lc2, ec2, la2, ea2, ra2, xa2, ta2, hJ, h1, h2⟩ hS hd) ls hl
