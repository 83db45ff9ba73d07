/-! THE LAW'S LOOP -/
set_option maxHeartbeats 4000000 in
set_option maxRecDepth 100000 in
theorem law_loop {p : Program} {e : Env} {s : State} {m : MethodId} {below : List Frame} {meth : Method} {c : Code} {Q : State → Prop} (l : Launch) (hlt : l.stackTraces = false) (g : gT) {b L : Nat} {xs : Nat → Int32} {AD : Nat → Nat} {h : Nat} {X : Nat → Nat} {ou : Nat} (hx : p.tables.exec = Jvm.exec) (hb : c.code = cL_law) (hml : c.maxLocals = 9) (hts : ∀ w ∈ wsL_law, w.before #[Value.ref b] s = true) (hown : s.vm.findClass RL = some m.cls) (hK : KK g s) (hZ : ZZ s s.heap) (hX : va_X b L xs s s.heap) (hbl : b < s.heap.size) (hL : L ≤ 2048) (hD : LD g (hiA s) AD h X ou)

    (kx : ∀ (H : Heap) (ls : Array Slot), W p l e room_1 s m #[Value.ref b] below meth c H [] room_1.cells room_1.slots Q (F0 m 2044 ls [])) : ∀ (k i : Nat) (LL : Nat → ltT) (EE : Nat → evT) (LN : Nat → Nat) (lc ec : Nat) (V : Nat → Nat → Int32) (th : Int32) (v : Int64) (H : Heap) (ls : Array Slot), L + 4 - i < k → i ≤ L → Inv LL EE LN lc ec V → LW g AD LL EE lc ec h X V th ou v H → va_S (hiA s) s.heap H [] → lv_has ls 9 [(4, .int (nI i)), (3, .ref ou), (2, .ref h), (1, .ref (AD 0)), (0, .ref b)] → W p l e room_1 s m #[Value.ref b] below meth c H [] (98 + 9 * i) (2261 + 66 * i) Q (F0 m 23 ls []) := by
  have rC : 100000 ≤ room_1.cells := Nat.le_of_ble_eq_true rfl
  have rS : 1000000 ≤ room_1.slots := Nat.le_of_ble_eq_true rfl
  intro k
  induction k with
  | zero => intro i LL EE LN lc ec V th v H ls hFu; exact absurd hFu (Nat.not_lt_zero _)
  | succ k ih =>
    intro i LL EE LN lc ec V th v H ls hFu hLe I hW hS hl
    refine lv_iload hx hb dL_law_23 (lv_at hl 0 rfl) ?_
    refine lv_aload_n hx hb dL_law_25 rfl (lv_at hl 4 rfl) ?_
    refine va_slen hx hb hX hbl (Nat.not_le.mpr hbl) hS dL_law_26 ?_
    refine lv_iconst (v := nI 4) hx hb dL_law_27 (by decide +kernel) ?_
    refine lv_isub hx hb dL_law_28 ?_
    refine lv_icmp_gt (tgt := 2044) hx hb dL_law_29 (by decide) (fun _ => W.widen (by omega) (by omega) (kx H ls)) (fun cg => ?_)
    have hi : i + 4 ≤ L := by
      have h1 : ¬ (nI L - nI 4) < nI i := cg
      have h2 := Int32.le_iff_toInt_le.mp (Int32.not_lt.mp h1)
      rw [pk_sub_toInt (by omega) (by omega), nI_toInt (by omega)] at h2
      omega
    refine lv_aload_n hx hb dL_law_32 rfl (lv_at hl 4 rfl) ?_
    refine lv_iload hx hb dL_law_33 (lv_at hl 0 rfl) ?_
    refine va_sld hx hb hX hbl (Nat.not_le.mpr hbl) hS (vp_in_nI (by omega) (by omega)) dL_law_35 ?_
    refine lv_bipush (v := 63) hx hb dL_law_36 (by decide +kernel) ?_
    refine lv_iand hx hb dL_law_38 ?_
    generalize xs (nI i).toNatClampNeg &&& 63 = y
    have kk : ∀ (LL : Nat → ltT) (EE : Nat → evT) (LN : Nat → Nat) (lc ec : Nat) (V : Nat → Nat → Int32) (th : Int32) (v : Int64) (H : Heap) (ls : Array Slot), Inv LL EE LN lc ec V → LW g AD LL EE lc ec h X V th ou v H → va_S (hiA s) s.heap H [] → lv_has ls 9 [(4, .int (nI i)), (3, .ref ou), (2, .ref h), (1, .ref (AD 0)), (0, .ref b)] → W p l e room_1 s m #[Value.ref b] below meth c H [] (98 + 9 * i + 36) (2261 + 66 * i + 264) Q (F0 m 2038 ls []) := by
      intro LL EE LN lc ec V th v H ls I hW hS hl
      refine lv_iinc (v := nI (i + 4)) (lv' := [(4, .int (nI (i + 4))), (3, .ref ou), (2, .ref h), (1, .ref (AD 0)), (0, .ref b)]) hx hb dL_law_2038 hl (k := 0) rfl (nI_add i 4) (by decide) rfl (fun ls hl => ?_)
      refine lv_goto (tgt := 23) hx hb dL_law_2041 (by decide) ?_
      rw [show 98 + 9 * i + 36 = 98 + 9 * (i + 4) by omega, show 2261 + 66 * i + 264 = 2261 + 66 * (i + 4) by omega]
      exact ih (i + 4) LL EE LN lc ec V th v H ls (by omega) (by omega) I hW hS (lv_sub hl [0, 1, 2, 3, 4] rfl)
    by_cases hout : y.toInt < 0 ∨ 34 < y.toInt
    · exact lv_tableOut hx hb dL_law_39 (tgt := 2038) hout (by decide) (W.widen (by omega) (by omega) (kk LL EE LN lc ec V th v H ls I hW hS hl))
    have hk : y.toInt = 0 ∨ y.toInt = 1 ∨ y.toInt = 2 ∨ y.toInt = 3 ∨ y.toInt = 4 ∨ y.toInt = 5 ∨ y.toInt = 6 ∨ y.toInt = 7 ∨ y.toInt = 8 ∨ y.toInt = 9 ∨ y.toInt = 10 ∨ y.toInt = 11 ∨ y.toInt = 12 ∨ y.toInt = 13 ∨ y.toInt = 14 ∨ y.toInt = 15 ∨ y.toInt = 16 ∨ y.toInt = 17 ∨ y.toInt = 18 ∨ y.toInt = 19 ∨ y.toInt = 20 ∨ y.toInt = 21 ∨ y.toInt = 22 ∨ y.toInt = 23 ∨ y.toInt = 24 ∨ y.toInt = 25 ∨ y.toInt = 26 ∨ y.toInt = 27 ∨ y.toInt = 28 ∨ y.toInt = 29 ∨ y.toInt = 30 ∨ y.toInt = 31 ∨ y.toInt = 32 ∨ y.toInt = 33 ∨ y.toInt = 34 := by omega
    rcases hk with hk | hk | hk | hk | hk | hk | hk | hk | hk | hk | hk | hk | hk | hk | hk | hk | hk | hk | hk | hk | hk | hk | hk | hk | hk | hk | hk | hk | hk | hk | hk | hk | hk | hk | hk
    · exact lv_tableIn hx hb dL_law_39 (tgt := 192) (off := 153) (by omega) (by omega) (by rw [hk]; rfl) (by decide) (law_addLetter l hlt g hx hb hml hts hown hK hZ hX hbl hL hD I hW hS hi (by omega) (by omega) hl kk)
    · exact lv_tableIn hx hb dL_law_39 (tgt := 236) (off := 197) (by omega) (by omega) (by rw [hk]; rfl) (by decide) (law_copyLetter l hlt g hx hb hml hts hown hK hZ hX hbl hL hD I hW hS hi (by omega) (by omega) hl kk)
    · exact lv_tableIn hx hb dL_law_39 (tgt := 292) (off := 253) (by omega) (by omega) (by rw [hk]; rfl) (by decide) (law_write l hlt g hx hb hml hts hown hK hZ hX hbl hL hD I hW hS hi (by omega) (by omega) hl kk)
    · exact lv_tableIn hx hb dL_law_39 (tgt := 360) (off := 321) (by omega) (by omega) (by rw [hk]; rfl) (by decide) (law_erase l hlt g hx hb hml hts hown hK hZ hX hbl hL hD I hW hS hi (by omega) (by omega) hl kk)
    · exact lv_tableIn hx hb dL_law_39 (tgt := 416) (off := 377) (by omega) (by omega) (by rw [hk]; rfl) (by decide) (law_forge l hlt g hx hb hml hts hown hK hZ hX hbl hL hD I hW hS hi (by omega) (by omega) hl kk)
    · exact lv_tableIn hx hb dL_law_39 (tgt := 484) (off := 445) (by omega) (by omega) (by rw [hk]; rfl) (by decide) (law_tear l hlt g hx hb hml hts hown hK hZ hX hbl hL hD I hW hS hi (by omega) (by omega) hl kk)
    · exact lv_tableIn hx hb dL_law_39 (tgt := 552) (off := 513) (by omega) (by omega) (by rw [hk]; rfl) (by decide) (law_mend l hlt g hx hb hml hts hown hK hZ hX hbl hL hD I hW hS hi (by omega) (by omega) hl kk)
    · exact lv_tableIn hx hb dL_law_39 (tgt := 632) (off := 593) (by omega) (by omega) (by rw [hk]; rfl) (by decide) (law_seal l hlt g hx hb hml hts hown hK hZ hX hbl hL hD I hW hS hi (by omega) (by omega) hl kk)
    · exact lv_tableIn hx hb dL_law_39 (tgt := 688) (off := 649) (by omega) (by omega) (by rw [hk]; rfl) (by decide) (law_unseal l hlt g hx hb hml hts hown hK hZ hX hbl hL hD I hW hS hi (by omega) (by omega) hl kk)
    · exact lv_tableIn hx hb dL_law_39 (tgt := 732) (off := 693) (by omega) (by omega) (by rw [hk]; rfl) (by decide) (law_letters l hlt g hx hb hml hts hown hK hZ hX hbl hL hD I hW hS hi (by omega) (by omega) hl kk)
    · exact lv_tableIn hx hb dL_law_39 (tgt := 745) (off := 706) (by omega) (by omega) (by rw [hk]; rfl) (by decide) (law_signsOf l hlt g hx hb hml hts hown hK hZ hX hbl hL hD I hW hS hi (by omega) (by omega) hl kk)
    · exact lv_tableIn hx hb dL_law_39 (tgt := 801) (off := 762) (by omega) (by omega) (by rw [hk]; rfl) (by decide) (law_commasOf l hlt g hx hb hml hts hown hK hZ hX hbl hL hD I hW hS hi (by omega) (by omega) hl kk)
    · exact lv_tableIn hx hb dL_law_39 (tgt := 857) (off := 818) (by omega) (by omega) (by rw [hk]; rfl) (by decide) (law_tearsOf l hlt g hx hb hml hts hown hK hZ hX hbl hL hD I hW hS hi (by omega) (by omega) hl kk)
    · exact lv_tableIn hx hb dL_law_39 (tgt := 913) (off := 874) (by omega) (by omega) (by rw [hk]; rfl) (by decide) (law_digestOf l hlt g hx hb hml hts hown hK hZ hX hbl hL hD I hW hS hi (by omega) (by omega) hl kk)
    · exact lv_tableIn hx hb dL_law_39 (tgt := 969) (off := 930) (by omega) (by omega) (by rw [hk]; rfl) (by decide) (law_signAt l hlt g hx hb hml hts hown hK hZ hX hbl hL hD I hW hS hi (by omega) (by omega) hl kk)
    · exact lv_tableIn hx hb dL_law_39 (tgt := 1037) (off := 998) (by omega) (by omega) (by rw [hk]; rfl) (by decide) (law_sumOf l hlt g hx hb hml hts hown hK hZ hX hbl hL hD I hW hS hi (by omega) (by omega) hl kk)
    · exact lv_tableIn hx hb dL_law_39 (tgt := 1117) (off := 1078) (by omega) (by omega) (by rw [hk]; rfl) (by decide) (law_sameSums l hlt g hx hb hml hts hown hK hZ hX hbl hL hD I hW hS hi (by omega) (by omega) hl kk)
    · exact lv_tableIn hx hb dL_law_39 (tgt := 1185) (off := 1146) (by omega) (by omega) (by rw [hk]; rfl) (by decide) (law_falseAlarms l hlt g hx hb hml hts hown hK hZ hX hbl hL hD I hW hS hi (by omega) (by omega) hl kk)
    · exact lv_tableIn hx hb dL_law_39 (tgt := 1253) (off := 1214) (by omega) (by omega) (by rw [hk]; rfl) (by decide) (law_firstOf l hlt g hx hb hml hts hown hK hZ hX hbl hL hD I hW hS hi (by omega) (by omega) hl kk)
    · exact lv_tableIn hx hb dL_law_39 (tgt := 1321) (off := 1282) (by omega) (by omega) (by rw [hk]; rfl) (by decide) (law_doubles l hlt g hx hb hml hts hown hK hZ hX hbl hL hD I hW hS hi (by omega) (by omega) hl kk)
    · exact lv_tableIn hx hb dL_law_39 (tgt := 1334) (off := 1295) (by omega) (by omega) (by rw [hk]; rfl) (by decide) (law_envelopes l hlt g hx hb hml hts hown hK hZ hX hbl hL hD I hW hS hi (by omega) (by omega) hl kk)
    · exact lv_tableIn hx hb dL_law_39 (tgt := 1347) (off := 1308) (by omega) (by omega) (by rw [hk]; rfl) (by decide) (law_letterIn l hlt g hx hb hml hts hown hK hZ hX hbl hL hD I hW hS hi (by omega) (by omega) hl kk)
    · exact lv_tableIn hx hb dL_law_39 (tgt := 1403) (off := 1364) (by omega) (by omega) (by rw [hk]; rfl) (by decide) (law_digestIn l hlt g hx hb hml hts hown hK hZ hX hbl hL hD I hW hS hi (by omega) (by omega) hl kk)
    · exact lv_tableIn hx hb dL_law_39 (tgt := 1459) (off := 1420) (by omega) (by omega) (by rw [hk]; rfl) (by decide) (law_sealOf l hlt g hx hb hml hts hown hK hZ hX hbl hL hD I hW hS hi (by omega) (by omega) hl kk)
    · exact lv_tableIn hx hb dL_law_39 (tgt := 1515) (off := 1476) (by omega) (by omega) (by rw [hk]; rfl) (by decide) (law_isWhole l hlt g hx hb hml hts hown hK hZ hX hbl hL hD I hW hS hi (by omega) (by omega) hl kk)
    · exact lv_tableIn hx hb dL_law_39 (tgt := 1578) (off := 1539) (by omega) (by omega) (by rw [hk]; rfl) (by decide) (law_firstBroken l hlt g hx hb hml hts hown hK hZ hX hbl hL hD I hW hS hi (by omega) (by omega) hl kk)
    · exact lv_tableIn hx hb dL_law_39 (tgt := 1591) (off := 1552) (by omega) (by omega) (by rw [hk]; rfl) (by decide) (law_tornBlocks l hlt g hx hb hml hts hown hK hZ hX hbl hL hD I hW hS hi (by omega) (by omega) hl kk)
    · exact lv_tableIn hx hb dL_law_39 (tgt := 1647) (off := 1608) (by omega) (by omega) (by rw [hk]; rfl) (by decide) (law_firstTorn l hlt g hx hb hml hts hown hK hZ hX hbl hL hD I hW hS hi (by omega) (by omega) hl kk)
    · exact lv_tableIn hx hb dL_law_39 (tgt := 1703) (off := 1664) (by omega) (by omega) (by rw [hk]; rfl) (by decide) (law_changedPlace l hlt g hx hb hml hts hown hK hZ hX hbl hL hD I hW hS hi (by omega) (by omega) hl kk)
    · exact lv_tableIn hx hb dL_law_39 (tgt := 1759) (off := 1720) (by omega) (by omega) (by rw [hk]; rfl) (by decide) (law_changedSign l hlt g hx hb hml hts hown hK hZ hX hbl hL hD I hW hS hi (by omega) (by omega) hl kk)
    · exact lv_tableIn hx hb dL_law_39 (tgt := 1815) (off := 1776) (by omega) (by omega) (by rw [hk]; rfl) (by decide) (law_wouldSeal l hlt g hx hb hml hts hown hK hZ hX hbl hL hD I hW hS hi (by omega) (by omega) hl kk)
    · exact lv_tableIn hx hb dL_law_39 (tgt := 1871) (off := 1832) (by omega) (by omega) (by rw [hk]; rfl) (by decide) (law_unnoticed l hlt g hx hb hml hts hown hK hZ hX hbl hL hD I hW hS hi (by omega) (by omega) hl kk)
    · exact lv_tableIn hx hb dL_law_39 (tgt := 1927) (off := 1888) (by omega) (by omega) (by rw [hk]; rfl) (by decide) (law_worstTear l hlt g hx hb hml hts hown hK hZ hX hbl hL hD I hW hS hi (by omega) (by omega) hl kk)
    · exact lv_tableIn hx hb dL_law_39 (tgt := 1983) (off := 1944) (by omega) (by omega) (by rw [hk]; rfl) (by decide) (law_meanSigns l hlt g hx hb hml hts hown hK hZ hX hbl hL hD I hW hS hi (by omega) (by omega) hl kk)
    · exact lv_tableIn hx hb dL_law_39 (tgt := 2024) (off := 1985) (by omega) (by omega) (by rw [hk]; rfl) (by decide) (law_digest l hlt g hx hb hml hts hown hK hZ hX hbl hL hD I hW hS hi (by omega) (by omega) hl kk)
