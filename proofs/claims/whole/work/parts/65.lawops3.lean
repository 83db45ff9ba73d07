theorem bi_or (b : Bool) : bI b = 0 ∨ bI b = 1 := by
  cases b
  · exact Or.inl rfl
  · exact Or.inr rfl
set_option maxHeartbeats 4000000 in
set_option maxRecDepth 100000 in
theorem op_isWholeZ (l : Launch) (hlt : l.stackTraces = false) (g : gT) (AD : Nat → Nat) (h : Nat) (X : Nat → Nat) (LL : Nat → ltT) (EE : Nat → evT) (LN : Nat → Nat) (lc ec : Nat) (V : Nat → Nat → Int32) (th : Int32) (ou : Nat) (v : Int64) (I : Inv LL EE LN lc ec V) (x : Int32) : ∃ (code r : Int32) (v' : Int64) (LL' : Nat → ltT) (EE' : Nat → evT) (LN' : Nat → Nat) (lc' ec' : Nat) (V' : Nat → Nat → Int32) (rm : Room), lM g l yL_isWhole wsL_isWhole { frames := 8, cells := 1, slots := 6, locals := 125 } [.ref (AD 0), .int x, .ref ou] (wsD g AD LL EE lc ec) ou v code (wsD g AD LL' EE' lc' ec') v' ∧ (rm.frames ≤ 6 ∧ rm.cells = 0 ∧ rm.slots = 0 ∧ rm.locals ≤ 200) ∧ wM g l yX3_isWhole wsX3_isWhole rm [.ref h, .int x] (mdW g h X V th lc ec) (some (.int r)) (mdW g h X V' code lc' ec') ∧ Inv LL' EE' LN' lc' ec' V' ∧ (code = 0 → v' = r.toInt64) ∧ (r = 0 ∨ r = 1) := by
  obtain ⟨hlc, hec, hLL, hZ0, hC, hE⟩ := id I
  have hEE := I.hEE
  have hNN := I.hNN
  have hEN := I.hEN
  cases hb : inB x ec with
  | false => exact ⟨1, _, v, LL, EE, LN, lc, ec, V, _, c_L_isWhole_x l hlt g AD LL EE LN lc ec hlc hec hLL hEE x hb ou v, rm_ok (by decide) (by decide), c_X3_isWhole_1 l g h X V th lc ec hlc hec x hb, I, fun z => absurd z (by decide +kernel), bi_or _⟩
  | true =>
    obtain ⟨q, hq, rfl⟩ := inB_of hb (by omega)
    obtain ⟨⟨a1, a2, a3, a4⟩, ⟨b1, b2, b3, b4⟩, ⟨d1, d2, d3⟩, ⟨f1, f2⟩, f3, f4⟩ := hE q hq
    have hR := I.row a2
    exact ⟨0, _, _, LL, EE, LN, lc, ec, V, _, c_L_isWhole l g AD LL EE LN lc ec hlc hec hLL hEE q hq ou v, rm_ok (by decide) (by decide), c_X3_isWhole l g h X V th lc ec (fun i => (LL i).2.2) hlc hec hNN LN (fun q => (EE q).2.2.1) hEN q hq, I, fun _ => congrArg (fun b => (bI b).toInt64) (ft_eq hR b2), bi_or _⟩


set_option maxHeartbeats 4000000 in
set_option maxRecDepth 100000 in
theorem law_isWhole {p : Program} {e : Env} {s : State} {m : MethodId} {below : List Frame} {meth : Method} {c : Code} {Q : State → Prop} (l : Launch) (hlt : l.stackTraces = false) (g : gT) {b L : Nat} {xs : Nat → Int32} {AD : Nat → Nat} {h : Nat} {X : Nat → Nat} {ou : Nat} (hx : p.tables.exec = Jvm.exec) (hb : c.code = cL_law) (hml : c.maxLocals = 9) (hts : ∀ w ∈ wsL_law, w.before #[Value.ref b] s = true) (hown : s.vm.findClass RL = some m.cls) (hK : KK g s) (hZ : ZZ s s.heap) (hX : va_X b L xs s s.heap) (hbl : b < s.heap.size) (hL : L ≤ 2048) (hD : LD g (hiA s) AD h X ou)
    {LL : Nat → ltT} {EE : Nat → evT} {LN : Nat → Nat} {lc ec : Nat} {V : Nat → Nat → Int32} {th : Int32} {v : Int64} {H : Heap} {cells slots i : Nat} {ls : Array Slot} (I : Inv LL EE LN lc ec V) (hW : LW g AD LL EE lc ec h X V th ou v H) (hS : va_S (hiA s) s.heap H []) (hi : i + 4 ≤ L) (hcl : cells + 36 ≤ room_1.cells) (hsl : slots + 264 ≤ room_1.slots) (hl : lv_has ls 9 [(4, .int (nI i)), (3, .ref ou), (2, .ref h), (1, .ref (AD 0)), (0, .ref b)])
    (kk : ∀ (LL : Nat → ltT) (EE : Nat → evT) (LN : Nat → Nat) (lc ec : Nat) (V : Nat → Nat → Int32) (th : Int32) (v : Int64) (H : Heap) (ls : Array Slot), Inv LL EE LN lc ec V → LW g AD LL EE lc ec h X V th ou v H → va_S (hiA s) s.heap H [] → lv_has ls 9 [(4, .int (nI i)), (3, .ref ou), (2, .ref h), (1, .ref (AD 0)), (0, .ref b)] → W p l e room_1 s m #[Value.ref b] below meth c H [] (cells + 36) (slots + 264) Q (F0 m 2038 ls [])) : W p l e room_1 s m #[Value.ref b] below meth c H [] cells slots Q (F0 m 1515 ls []) := by
  have S : CallFix p m c cL_law 9 s #[Value.ref b] wsL_law RL := ⟨hx, hb, hml, hown, hts⟩
  obtain ⟨code, r, v2, LL2, EE2, LN2, lc2, ec2, V2, rm, hw1, ⟨r1, r2, r3, r4⟩, hw2, I2, hv, h01⟩ := op_isWholeZ l hlt g AD h X LL EE LN lc ec V th ou v I (xs (nI (i + 1)).toNatClampNeg)
  refine lv_aload_n hx hb dL_law_1515 rfl (lv_at hl 3 rfl) ?_
  refine lv_aload_n hx hb dL_law_1516 rfl (lv_at hl 4 rfl) ?_
  refine lv_iload hx hb dL_law_1517 (lv_at hl 0 rfl) ?_
  refine lv_iconst (v := nI 1) hx hb dL_law_1519 (by decide +kernel) ?_
  refine lv_iadd hx hb dL_law_1520 ?_
  refine lv_toI (z := nI (i + 1)) (nI_add _ _) ?_
  refine va_sld hx hb hX hbl (Nat.not_le.mpr hbl) hS (vp_in_nI (by omega) (by omega)) dL_law_1521 ?_
  refine lv_aload_n hx hb dL_law_1522 rfl (lv_at hl 1 rfl) ?_
  refine lw_W (h := h) (X := X) (As := [.ref (AD 0), .int (xs (nI (i + 1)).toNatClampNeg), .ref (ou)]) (rest := []) S hw1 (vx_cwSW 3 hts gL_law_L_isWhole rfl rfl rfl (by decide +kernel) ⟨Nat.le_of_ble_eq_true rfl, Nat.le_of_ble_eq_true rfl⟩) hK hZ hD hW hS rfl hl.1 rfl (Nat.le_of_ble_eq_true rfl) dL_law_1523 ⟨by show _ ≤ room_1.cells; omega, by show _ ≤ room_1.slots; omega⟩ (fun H hP hPm hO hS => ?_)
  refine lv_istore (lv' := [(5, .int (code)), (4, .int (nI i)), (3, .ref (ou)), (2, .ref (h)), (1, .ref (AD 0)), (0, .ref (b))]) hx hb dL_law_1526 hl (by decide) rfl (fun ls hl => ?_)
  refine lv_aload_n hx hb dL_law_1528 rfl (lv_at hl 3 rfl) ?_
  refine lv_aload_n hx hb dL_law_1529 rfl (lv_at hl 5 rfl) ?_
  refine lv_iload hx hb dL_law_1530 (lv_at hl 1 rfl) ?_
  refine lv_iconst (v := nI 1) hx hb dL_law_1532 (by decide +kernel) ?_
  refine lv_iadd hx hb dL_law_1533 ?_
  refine lv_toI (z := nI (i + 1)) (nI_add _ _) ?_
  refine va_sld hx hb hX hbl (Nat.not_le.mpr hbl) hS (vp_in_nI (by omega) (by omega)) dL_law_1534 ?_
  refine lw_M (As := [.int (xs (nI (i + 1)).toNatClampNeg)]) (rest := []) S hw2 (cwV 1 hts gL_law_X3_isWhole rfl r2 r3 (by decide +kernel) ⟨by show rm.frames + 1 ≤ 12; omega, by show 8 + (2 + 11) + rm.locals ≤ 436; omega⟩) hK (va_recv hK.1 hPm (ci := 3) (q0 := 0) rfl rfl) hD hP hPm hO hS rfl hl.1 rfl (Nat.le_of_ble_eq_true rfl) dL_law_1535 ⟨by show _ ≤ room_1.cells; omega, by show _ ≤ room_1.slots; omega⟩ (fun H hW hS => ?_)
  refine lv_istore (lv' := [(6, .int (r)), (5, .int (code)), (4, .int (nI i)), (3, .ref (ou)), (2, .ref (h)), (1, .ref (AD 0)), (0, .ref (b))]) hx hb dL_law_1538 hl (by decide) rfl (fun ls hl => ?_)
  refine lv_aload_n hx hb dL_law_1540 rfl (lv_at hl 4 rfl) ?_
  refine p_V (As := []) (rest := []) S (c_X3_thrown l g h X V2 code lc2 ec2) (cwV 0 hts gL_law_X3_thrown rfl rfl rfl (by decide +kernel) ⟨Nat.le_of_ble_eq_true rfl, Nat.le_of_ble_eq_true rfl⟩) hK (va_recv hK.1 hW.2.1 (ci := 3) (q0 := 0) rfl rfl) hW.2.1 rfl hl.1 rfl (Nat.le_of_ble_eq_true rfl) dL_law_1541 ⟨by show _ ≤ room_1.cells; omega, by show _ ≤ room_1.slots; omega⟩ ?_
  refine lv_iload hx hb dL_law_1544 (lv_at hl 1 rfl) ?_
  refine lv_icmp_eq (tgt := 1551) hx hb dL_law_1546 (by decide) (fun _ => ?_) (fun z => absurd rfl z)
  refine lv_iload hx hb dL_law_1551 (lv_at hl 1 rfl) ?_
  refine lv_if_ne (tgt := 1575) hx hb dL_law_1553 (by decide) (fun cz => ?_) (fun cz => ?_)
  · exact W.widen (by omega) (by omega) (lv_goto (tgt := 2038) hx hb dL_law_1575 (by decide) (kk _ _ _ _ _ _ _ _ _ _ I2 hW hS (lv_sub hl [2, 3, 4, 5, 6] rfl)))
  refine lv_aload_n hx hb dL_law_1556 rfl (lv_at hl 3 rfl) ?_
  refine lv_iconst (v := 0) hx hb dL_law_1557 (by decide +kernel) ?_
  refine lw_gets hx hb hK hW.2.2 dL_law_1558 ?_
  refine lv_toJ (z := r.toInt64) (hv cz) ?_
  refine lv_iload hx hb dL_law_1559 (lv_at hl 0 rfl) ?_
  refine lv_if_eq (tgt := 1568) hx hb dL_law_1561 (by decide) (fun cr => ?_) (fun cr => ?_)
  · refine lv_lconst (v := 0) hx hb dL_law_1568 (by decide +kernel) ?_
    refine W.lcmp hx hb dL_law_1569 ?_
    refine lv_toI (z := 0) (by rw [cr]; decide +kernel) ?_
    refine lv_if_eq (tgt := 1575) hx hb dL_law_1570 (by decide) (fun _ => ?_) (fun z => absurd rfl z)
    exact W.widen (by omega) (by omega) (lv_goto (tgt := 2038) hx hb dL_law_1575 (by decide) (kk _ _ _ _ _ _ _ _ _ _ I2 hW hS (lv_sub hl [2, 3, 4, 5, 6] rfl)))
  · refine lv_lconst (v := 1) hx hb dL_law_1564 (by decide +kernel) ?_
    refine lv_goto (tgt := 1569) hx hb dL_law_1565 (by decide) ?_
    refine W.lcmp hx hb dL_law_1569 ?_
    refine lv_toI (z := 0) (by rw [h01.resolve_left cr]; decide +kernel) ?_
    refine lv_if_eq (tgt := 1575) hx hb dL_law_1570 (by decide) (fun _ => ?_) (fun z => absurd rfl z)
    exact W.widen (by omega) (by omega) (lv_goto (tgt := 2038) hx hb dL_law_1575 (by decide) (kk _ _ _ _ _ _ _ _ _ _ I2 hW hS (lv_sub hl [2, 3, 4, 5, 6] rfl)))
