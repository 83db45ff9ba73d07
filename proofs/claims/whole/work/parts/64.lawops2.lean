/-! the operations without an exception -/
set_option maxHeartbeats 4000000 in
set_option maxRecDepth 100000 in
theorem law_letters {p : Program} {e : Env} {s : State} {m : MethodId} {below : List Frame} {meth : Method} {c : Code} {Q : State → Prop} (l : Launch) (hlt : l.stackTraces = false) (g : gT) {b L : Nat} {xs : Nat → Int32} {AD : Nat → Nat} {h : Nat} {X : Nat → Nat} {ou : Nat} (hx : p.tables.exec = Jvm.exec) (hb : c.code = cL_law) (hml : c.maxLocals = 9) (hts : ∀ w ∈ wsL_law, w.before #[Value.ref b] s = true) (hown : s.vm.findClass RL = some m.cls) (hK : KK g s) (hZ : ZZ s s.heap) (hX : va_X b L xs s s.heap) (hbl : b < s.heap.size) (hL : L ≤ 2048) (hD : LD g (hiA s) AD h X ou)
    {LL : Nat → ltT} {EE : Nat → evT} {LN : Nat → Nat} {lc ec : Nat} {V : Nat → Nat → Int32} {th : Int32} {v : Int64} {H : Heap} {cells slots i : Nat} {ls : Array Slot} (I : Inv LL EE LN lc ec V) (hW : LW g AD LL EE lc ec h X V th ou v H) (hS : va_S (hiA s) s.heap H []) (hi : i + 4 ≤ L) (hcl : cells + 36 ≤ room_1.cells) (hsl : slots + 264 ≤ room_1.slots) (hl : lv_has ls 9 [(4, .int (nI i)), (3, .ref ou), (2, .ref h), (1, .ref (AD 0)), (0, .ref b)])
    (kk : ∀ (LL : Nat → ltT) (EE : Nat → evT) (LN : Nat → Nat) (lc ec : Nat) (V : Nat → Nat → Int32) (th : Int32) (v : Int64) (H : Heap) (ls : Array Slot), Inv LL EE LN lc ec V → LW g AD LL EE lc ec h X V th ou v H → va_S (hiA s) s.heap H [] → lv_has ls 9 [(4, .int (nI i)), (3, .ref ou), (2, .ref h), (1, .ref (AD 0)), (0, .ref b)] → W p l e room_1 s m #[Value.ref b] below meth c H [] (cells + 36) (slots + 264) Q (F0 m 2038 ls [])) : W p l e room_1 s m #[Value.ref b] below meth c H [] cells slots Q (F0 m 732 ls []) := by
  have S : CallFix p m c cL_law 9 s #[Value.ref b] wsL_law RL := ⟨hx, hb, hml, hown, hts⟩
  obtain ⟨hlc, hec, hLL, -, hC, hE⟩ := id I
  obtain ⟨hP, hPm, hO⟩ := hW
  refine lv_aload_n hx hb dL_law_732 rfl (lv_at hl 3 rfl) ?_
  refine p_V (As := []) (rest := []) S (c_X2_letters l g AD LL EE LN lc ec hlc hec hLL I.hEE) (cwV 0 hts gL_law_X2_letters rfl rfl rfl (by decide +kernel) ⟨Nat.le_of_ble_eq_true rfl, Nat.le_of_ble_eq_true rfl⟩) hK (va_recv hK.1 hP (ci := 2) (q0 := 0) rfl dk_me) hP rfl hl.1 rfl (Nat.le_of_ble_eq_true rfl) dL_law_733 ⟨by show _ ≤ room_1.cells; omega, by show _ ≤ room_1.slots; omega⟩ ?_
  refine lv_aload_n hx hb dL_law_736 rfl (lv_at hl 2 rfl) ?_
  refine lw_M (As := []) (rest := [_]) S (c_X3_letters l g h X V th lc ec hlc hec) (cwV 0 hts gL_law_X3_letters rfl rfl rfl (by decide +kernel) ⟨Nat.le_of_ble_eq_true rfl, Nat.le_of_ble_eq_true rfl⟩) hK (va_recv hK.1 hPm (ci := 3) (q0 := 0) rfl rfl) hD hP hPm hO hS rfl hl.1 rfl (Nat.le_of_ble_eq_true rfl) dL_law_737 ⟨by show _ ≤ room_1.cells; omega, by show _ ≤ room_1.slots; omega⟩ (fun H hW hS => ?_)
  refine lv_toI (rfl) ?_
  refine lv_icmp_eq (tgt := 2038) hx hb dL_law_740 (by decide) (fun _ => ?_) (fun z => absurd rfl z)
  exact W.widen (by omega) (by omega) (kk _ _ _ _ _ _ _ _ _ _ I hW hS hl)

set_option maxHeartbeats 4000000 in
set_option maxRecDepth 100000 in
theorem law_envelopes {p : Program} {e : Env} {s : State} {m : MethodId} {below : List Frame} {meth : Method} {c : Code} {Q : State → Prop} (l : Launch) (hlt : l.stackTraces = false) (g : gT) {b L : Nat} {xs : Nat → Int32} {AD : Nat → Nat} {h : Nat} {X : Nat → Nat} {ou : Nat} (hx : p.tables.exec = Jvm.exec) (hb : c.code = cL_law) (hml : c.maxLocals = 9) (hts : ∀ w ∈ wsL_law, w.before #[Value.ref b] s = true) (hown : s.vm.findClass RL = some m.cls) (hK : KK g s) (hZ : ZZ s s.heap) (hX : va_X b L xs s s.heap) (hbl : b < s.heap.size) (hL : L ≤ 2048) (hD : LD g (hiA s) AD h X ou)
    {LL : Nat → ltT} {EE : Nat → evT} {LN : Nat → Nat} {lc ec : Nat} {V : Nat → Nat → Int32} {th : Int32} {v : Int64} {H : Heap} {cells slots i : Nat} {ls : Array Slot} (I : Inv LL EE LN lc ec V) (hW : LW g AD LL EE lc ec h X V th ou v H) (hS : va_S (hiA s) s.heap H []) (hi : i + 4 ≤ L) (hcl : cells + 36 ≤ room_1.cells) (hsl : slots + 264 ≤ room_1.slots) (hl : lv_has ls 9 [(4, .int (nI i)), (3, .ref ou), (2, .ref h), (1, .ref (AD 0)), (0, .ref b)])
    (kk : ∀ (LL : Nat → ltT) (EE : Nat → evT) (LN : Nat → Nat) (lc ec : Nat) (V : Nat → Nat → Int32) (th : Int32) (v : Int64) (H : Heap) (ls : Array Slot), Inv LL EE LN lc ec V → LW g AD LL EE lc ec h X V th ou v H → va_S (hiA s) s.heap H [] → lv_has ls 9 [(4, .int (nI i)), (3, .ref ou), (2, .ref h), (1, .ref (AD 0)), (0, .ref b)] → W p l e room_1 s m #[Value.ref b] below meth c H [] (cells + 36) (slots + 264) Q (F0 m 2038 ls [])) : W p l e room_1 s m #[Value.ref b] below meth c H [] cells slots Q (F0 m 1334 ls []) := by
  have S : CallFix p m c cL_law 9 s #[Value.ref b] wsL_law RL := ⟨hx, hb, hml, hown, hts⟩
  obtain ⟨hlc, hec, hLL, -, hC, hE⟩ := id I
  obtain ⟨hP, hPm, hO⟩ := hW
  refine lv_aload_n hx hb dL_law_1334 rfl (lv_at hl 3 rfl) ?_
  refine p_V (As := []) (rest := []) S (c_X2_envelopes l g AD LL EE LN lc ec hlc hec hLL I.hEE) (cwV 0 hts gL_law_X2_envelopes rfl rfl rfl (by decide +kernel) ⟨Nat.le_of_ble_eq_true rfl, Nat.le_of_ble_eq_true rfl⟩) hK (va_recv hK.1 hP (ci := 2) (q0 := 0) rfl dk_me) hP rfl hl.1 rfl (Nat.le_of_ble_eq_true rfl) dL_law_1335 ⟨by show _ ≤ room_1.cells; omega, by show _ ≤ room_1.slots; omega⟩ ?_
  refine lv_aload_n hx hb dL_law_1338 rfl (lv_at hl 2 rfl) ?_
  refine lw_M (As := []) (rest := [_]) S (c_X3_envelopes l g h X V th lc ec hlc hec) (cwV 0 hts gL_law_X3_envelopes rfl rfl rfl (by decide +kernel) ⟨Nat.le_of_ble_eq_true rfl, Nat.le_of_ble_eq_true rfl⟩) hK (va_recv hK.1 hPm (ci := 3) (q0 := 0) rfl rfl) hD hP hPm hO hS rfl hl.1 rfl (Nat.le_of_ble_eq_true rfl) dL_law_1339 ⟨by show _ ≤ room_1.cells; omega, by show _ ≤ room_1.slots; omega⟩ (fun H hW hS => ?_)
  refine lv_toI (rfl) ?_
  refine lv_icmp_eq (tgt := 2038) hx hb dL_law_1342 (by decide) (fun _ => ?_) (fun z => absurd rfl z)
  exact W.widen (by omega) (by omega) (kk _ _ _ _ _ _ _ _ _ _ I hW hS hl)

set_option maxHeartbeats 4000000 in
set_option maxRecDepth 100000 in
theorem law_doubles {p : Program} {e : Env} {s : State} {m : MethodId} {below : List Frame} {meth : Method} {c : Code} {Q : State → Prop} (l : Launch) (hlt : l.stackTraces = false) (g : gT) {b L : Nat} {xs : Nat → Int32} {AD : Nat → Nat} {h : Nat} {X : Nat → Nat} {ou : Nat} (hx : p.tables.exec = Jvm.exec) (hb : c.code = cL_law) (hml : c.maxLocals = 9) (hts : ∀ w ∈ wsL_law, w.before #[Value.ref b] s = true) (hown : s.vm.findClass RL = some m.cls) (hK : KK g s) (hZ : ZZ s s.heap) (hX : va_X b L xs s s.heap) (hbl : b < s.heap.size) (hL : L ≤ 2048) (hD : LD g (hiA s) AD h X ou)
    {LL : Nat → ltT} {EE : Nat → evT} {LN : Nat → Nat} {lc ec : Nat} {V : Nat → Nat → Int32} {th : Int32} {v : Int64} {H : Heap} {cells slots i : Nat} {ls : Array Slot} (I : Inv LL EE LN lc ec V) (hW : LW g AD LL EE lc ec h X V th ou v H) (hS : va_S (hiA s) s.heap H []) (hi : i + 4 ≤ L) (hcl : cells + 36 ≤ room_1.cells) (hsl : slots + 264 ≤ room_1.slots) (hl : lv_has ls 9 [(4, .int (nI i)), (3, .ref ou), (2, .ref h), (1, .ref (AD 0)), (0, .ref b)])
    (kk : ∀ (LL : Nat → ltT) (EE : Nat → evT) (LN : Nat → Nat) (lc ec : Nat) (V : Nat → Nat → Int32) (th : Int32) (v : Int64) (H : Heap) (ls : Array Slot), Inv LL EE LN lc ec V → LW g AD LL EE lc ec h X V th ou v H → va_S (hiA s) s.heap H [] → lv_has ls 9 [(4, .int (nI i)), (3, .ref ou), (2, .ref h), (1, .ref (AD 0)), (0, .ref b)] → W p l e room_1 s m #[Value.ref b] below meth c H [] (cells + 36) (slots + 264) Q (F0 m 2038 ls [])) : W p l e room_1 s m #[Value.ref b] below meth c H [] cells slots Q (F0 m 1321 ls []) := by
  have S : CallFix p m c cL_law 9 s #[Value.ref b] wsL_law RL := ⟨hx, hb, hml, hown, hts⟩
  obtain ⟨hlc, hec, hLL, -, hC, hE⟩ := id I
  obtain ⟨hP, hPm, hO⟩ := hW
  refine lv_aload_n hx hb dL_law_1321 rfl (lv_at hl 3 rfl) ?_
  refine p_V (As := []) (rest := []) S (c_X2_doubles l g AD LL EE LN lc ec hlc hec hLL I.hEE) (cwV 0 hts gL_law_X2_doubles rfl rfl rfl (by decide +kernel) ⟨Nat.le_of_ble_eq_true rfl, Nat.le_of_ble_eq_true rfl⟩) hK (va_recv hK.1 hP (ci := 2) (q0 := 0) rfl dk_me) hP rfl hl.1 rfl (Nat.le_of_ble_eq_true rfl) dL_law_1322 ⟨by show _ ≤ room_1.cells; omega, by show _ ≤ room_1.slots; omega⟩ ?_
  refine lv_aload_n hx hb dL_law_1325 rfl (lv_at hl 2 rfl) ?_
  refine lw_M (As := []) (rest := [_]) S (c_X3_doubles l g h X V th lc ec (fun i => (LL i).2.2) hlc hec I.hNN) (cwV 0 hts gL_law_X3_doubles rfl rfl rfl (by decide +kernel) ⟨Nat.le_of_ble_eq_true rfl, Nat.le_of_ble_eq_true rfl⟩) hK (va_recv hK.1 hPm (ci := 3) (q0 := 0) rfl rfl) hD hP hPm hO hS rfl hl.1 rfl (Nat.le_of_ble_eq_true rfl) dL_law_1326 ⟨by show _ ≤ room_1.cells; omega, by show _ ≤ room_1.slots; omega⟩ (fun H hW hS => ?_)
  refine lv_toI ((db_eq (r := rwV V) fun i hi => I.row hi).symm) ?_
  refine lv_icmp_eq (tgt := 2038) hx hb dL_law_1329 (by decide) (fun _ => ?_) (fun z => absurd rfl z)
  exact W.widen (by omega) (by omega) (kk _ _ _ _ _ _ _ _ _ _ I hW hS hl)

set_option maxHeartbeats 4000000 in
set_option maxRecDepth 100000 in
theorem law_firstBroken {p : Program} {e : Env} {s : State} {m : MethodId} {below : List Frame} {meth : Method} {c : Code} {Q : State → Prop} (l : Launch) (hlt : l.stackTraces = false) (g : gT) {b L : Nat} {xs : Nat → Int32} {AD : Nat → Nat} {h : Nat} {X : Nat → Nat} {ou : Nat} (hx : p.tables.exec = Jvm.exec) (hb : c.code = cL_law) (hml : c.maxLocals = 9) (hts : ∀ w ∈ wsL_law, w.before #[Value.ref b] s = true) (hown : s.vm.findClass RL = some m.cls) (hK : KK g s) (hZ : ZZ s s.heap) (hX : va_X b L xs s s.heap) (hbl : b < s.heap.size) (hL : L ≤ 2048) (hD : LD g (hiA s) AD h X ou)
    {LL : Nat → ltT} {EE : Nat → evT} {LN : Nat → Nat} {lc ec : Nat} {V : Nat → Nat → Int32} {th : Int32} {v : Int64} {H : Heap} {cells slots i : Nat} {ls : Array Slot} (I : Inv LL EE LN lc ec V) (hW : LW g AD LL EE lc ec h X V th ou v H) (hS : va_S (hiA s) s.heap H []) (hi : i + 4 ≤ L) (hcl : cells + 36 ≤ room_1.cells) (hsl : slots + 264 ≤ room_1.slots) (hl : lv_has ls 9 [(4, .int (nI i)), (3, .ref ou), (2, .ref h), (1, .ref (AD 0)), (0, .ref b)])
    (kk : ∀ (LL : Nat → ltT) (EE : Nat → evT) (LN : Nat → Nat) (lc ec : Nat) (V : Nat → Nat → Int32) (th : Int32) (v : Int64) (H : Heap) (ls : Array Slot), Inv LL EE LN lc ec V → LW g AD LL EE lc ec h X V th ou v H → va_S (hiA s) s.heap H [] → lv_has ls 9 [(4, .int (nI i)), (3, .ref ou), (2, .ref h), (1, .ref (AD 0)), (0, .ref b)] → W p l e room_1 s m #[Value.ref b] below meth c H [] (cells + 36) (slots + 264) Q (F0 m 2038 ls [])) : W p l e room_1 s m #[Value.ref b] below meth c H [] cells slots Q (F0 m 1578 ls []) := by
  have S : CallFix p m c cL_law 9 s #[Value.ref b] wsL_law RL := ⟨hx, hb, hml, hown, hts⟩
  obtain ⟨hlc, hec, hLL, -, hC, hE⟩ := id I
  obtain ⟨hP, hPm, hO⟩ := hW
  refine lv_aload_n hx hb dL_law_1578 rfl (lv_at hl 3 rfl) ?_
  refine p_V (As := []) (rest := []) S (c_X2_firstBroken l g AD LL EE LN lc ec hlc hec hLL I.hEE) (cwV 0 hts gL_law_X2_firstBroken rfl rfl rfl (by decide +kernel) ⟨Nat.le_of_ble_eq_true rfl, Nat.le_of_ble_eq_true rfl⟩) hK (va_recv hK.1 hP (ci := 2) (q0 := 0) rfl dk_me) hP rfl hl.1 rfl (Nat.le_of_ble_eq_true rfl) dL_law_1579 ⟨by show _ ≤ room_1.cells; omega, by show _ ≤ room_1.slots; omega⟩ ?_
  refine lv_aload_n hx hb dL_law_1582 rfl (lv_at hl 2 rfl) ?_
  refine lw_M (As := []) (rest := [_]) S (c_X3_firstBroken l g h X V th lc ec (fun i => (LL i).2.2) hlc hec I.hNN LN (fun q => (EE q).2.2.1) I.hEN) (cwV 0 hts gL_law_X3_firstBroken rfl rfl rfl (by decide +kernel) ⟨Nat.le_of_ble_eq_true rfl, Nat.le_of_ble_eq_true rfl⟩) hK (va_recv hK.1 hPm (ci := 3) (q0 := 0) rfl rfl) hD hP hPm hO hS rfl hl.1 rfl (Nat.le_of_ble_eq_true rfl) dL_law_1583 ⟨by show _ ≤ room_1.cells; omega, by show _ ≤ room_1.slots; omega⟩ (fun H hW hS => ?_)
  refine lv_toI ((fsF_congr (P := fun q => !ftD LL EE LN q) (Q := fun q => !asP V (fun i => (LL i).2.2) LN q) fun q _ hq => by show (!ftD LL EE LN q) = _; rw [ft_eq (V := V) (I.row ((hE q (by omega)).1.2.1)) (hE q (by omega)).2.1.2.1]).symm) ?_
  refine lv_icmp_eq (tgt := 2038) hx hb dL_law_1586 (by decide) (fun _ => ?_) (fun z => absurd rfl z)
  exact W.widen (by omega) (by omega) (kk _ _ _ _ _ _ _ _ _ _ I hW hS hl)

set_option maxHeartbeats 4000000 in
set_option maxRecDepth 100000 in
theorem law_meanSigns {p : Program} {e : Env} {s : State} {m : MethodId} {below : List Frame} {meth : Method} {c : Code} {Q : State → Prop} (l : Launch) (hlt : l.stackTraces = false) (g : gT) {b L : Nat} {xs : Nat → Int32} {AD : Nat → Nat} {h : Nat} {X : Nat → Nat} {ou : Nat} (hx : p.tables.exec = Jvm.exec) (hb : c.code = cL_law) (hml : c.maxLocals = 9) (hts : ∀ w ∈ wsL_law, w.before #[Value.ref b] s = true) (hown : s.vm.findClass RL = some m.cls) (hK : KK g s) (hZ : ZZ s s.heap) (hX : va_X b L xs s s.heap) (hbl : b < s.heap.size) (hL : L ≤ 2048) (hD : LD g (hiA s) AD h X ou)
    {LL : Nat → ltT} {EE : Nat → evT} {LN : Nat → Nat} {lc ec : Nat} {V : Nat → Nat → Int32} {th : Int32} {v : Int64} {H : Heap} {cells slots i : Nat} {ls : Array Slot} (I : Inv LL EE LN lc ec V) (hW : LW g AD LL EE lc ec h X V th ou v H) (hS : va_S (hiA s) s.heap H []) (hi : i + 4 ≤ L) (hcl : cells + 36 ≤ room_1.cells) (hsl : slots + 264 ≤ room_1.slots) (hl : lv_has ls 9 [(4, .int (nI i)), (3, .ref ou), (2, .ref h), (1, .ref (AD 0)), (0, .ref b)])
    (kk : ∀ (LL : Nat → ltT) (EE : Nat → evT) (LN : Nat → Nat) (lc ec : Nat) (V : Nat → Nat → Int32) (th : Int32) (v : Int64) (H : Heap) (ls : Array Slot), Inv LL EE LN lc ec V → LW g AD LL EE lc ec h X V th ou v H → va_S (hiA s) s.heap H [] → lv_has ls 9 [(4, .int (nI i)), (3, .ref ou), (2, .ref h), (1, .ref (AD 0)), (0, .ref b)] → W p l e room_1 s m #[Value.ref b] below meth c H [] (cells + 36) (slots + 264) Q (F0 m 2038 ls [])) : W p l e room_1 s m #[Value.ref b] below meth c H [] cells slots Q (F0 m 1983 ls []) := by
  have S : CallFix p m c cL_law 9 s #[Value.ref b] wsL_law RL := ⟨hx, hb, hml, hown, hts⟩
  obtain ⟨hlc, hec, hLL, -, hC, hE⟩ := id I
  obtain ⟨hP, hPm, hO⟩ := hW
  refine lv_aload_n hx hb dL_law_1983 rfl (lv_at hl 3 rfl) ?_
  refine p_V (As := []) (rest := []) S (c_X2_meanSigns l g AD LL EE LN lc ec hlc hec hLL I.hEE) (cwV 0 hts gL_law_X2_meanSigns rfl rfl rfl (by decide +kernel) ⟨Nat.le_of_ble_eq_true rfl, Nat.le_of_ble_eq_true rfl⟩) hK (va_recv hK.1 hP (ci := 2) (q0 := 0) rfl dk_me) hP rfl hl.1 rfl (Nat.le_of_ble_eq_true rfl) dL_law_1984 ⟨by show _ ≤ room_1.cells; omega, by show _ ≤ room_1.slots; omega⟩ ?_
  refine lv_dstore (lv' := [(5, .double (mnD lc (sN (fun j => (LL j).2.2) lc))), (4, .int (nI i)), (3, .ref ou), (2, .ref h), (1, .ref (AD 0)), (0, .ref b)]) hx hb dL_law_1987 hl (by decide) rfl (fun ls hl => ?_)
  refine lv_aload_n hx hb dL_law_1989 rfl (lv_at hl 3 rfl) ?_
  refine lw_M (As := []) (rest := []) S (c_X3_meanSigns l g h X V th lc ec (fun i => (LL i).2.2) hlc hec I.hNN) (cwV 0 hts gL_law_X3_meanSigns rfl rfl rfl (by decide +kernel) ⟨Nat.le_of_ble_eq_true rfl, Nat.le_of_ble_eq_true rfl⟩) hK (va_recv hK.1 hPm (ci := 3) (q0 := 0) rfl rfl) hD hP hPm hO hS rfl hl.1 rfl (Nat.le_of_ble_eq_true rfl) dL_law_1990 ⟨by show _ ≤ room_1.cells; omega, by show _ ≤ room_1.slots; omega⟩ (fun H hW hS => ?_)
  refine lv_dstore (lv' := [(7, .double (mnD lc (sN (fun j => (LL j).2.2) lc))), (5, .double (mnD lc (sN (fun j => (LL j).2.2) lc))), (4, .int (nI i)), (3, .ref ou), (2, .ref h), (1, .ref (AD 0)), (0, .ref b)]) hx hb dL_law_1993 hl (by decide) rfl (fun ls hl => ?_)
  refine lv_dload hx hb dL_law_1995 (lv_at hl 1 rfl) ?_
  refine lv_dload hx hb dL_law_1997 (lv_at hl 0 rfl) ?_
  refine lv_dcmp hx hb dL_law_1999 ?_
  refine lv_if_eq (tgt := 2021) hx hb dL_law_2000 (by decide) (fun _ => ?_) (fun cz => ?_)
  · exact W.widen (by omega) (by omega) (lv_goto (tgt := 2038) hx hb dL_law_2021 (by decide) (kk _ _ _ _ _ _ _ _ _ _ I hW hS (lv_sub hl [2, 3, 4, 5, 6] rfl)))
  refine lv_dload hx hb dL_law_2003 (lv_at hl 1 rfl) ?_
  refine lv_dload hx hb dL_law_2005 (lv_at hl 1 rfl) ?_
  refine lv_dcmp hx hb dL_law_2007 ?_
  refine lv_if_eq (tgt := 2019) hx hb dL_law_2008 (by decide) (fun z => absurd z cz) (fun _ => ?_)
  refine lv_dload hx hb dL_law_2011 (lv_at hl 0 rfl) ?_
  refine lv_dload hx hb dL_law_2013 (lv_at hl 0 rfl) ?_
  refine lv_dcmp hx hb dL_law_2015 ?_
  refine lv_if_ne (tgt := 2021) hx hb dL_law_2016 (by decide) (fun _ => ?_) (fun z => absurd z cz)
  exact W.widen (by omega) (by omega) (lv_goto (tgt := 2038) hx hb dL_law_2021 (by decide) (kk _ _ _ _ _ _ _ _ _ _ I hW hS (lv_sub hl [2, 3, 4, 5, 6] rfl)))
