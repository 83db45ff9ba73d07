/-! THE LAW'S WALK: a time, all times, the end -/

set_option maxHeartbeats 4000000 in
set_option maxRecDepth 100000 in
/-- looking leaves the checksum -/
theorem law_1015 {p : Program} {e : Env} {s : State} {m : MethodId} {below : List Frame} {meth : Method} {c : Code} {Q : State → Prop} (l : Launch) (hlt : l.stackTraces = false) (g : gT) {b L : Nat} {xs : Nat → Int32} {B so : Nat} {AD : Nat → Nat} (hx : p.tables.exec = Jvm.exec) (hb : c.code = cL_law) (hml : c.maxLocals = 18) (hts : ∀ w ∈ wsL_law, w.before #[Value.ref b] s = true) (hown : s.vm.findClass RL = some m.cls) (hK : KK g s) (hZ0 : ZB s.heap.size s s.heap) (hX0 : va_X b L xs s s.heap) (hL : L < 1000) (hJD : JD s.heap.size B AD)
    {LL : Nat → ltT} {EE : Nat → evT} {LN : Nat → Nat} {TT : Nat → (Nat → Int32) × Nat} {lc ec la ea : Nat} {ra xa ta : Nat → Nat} {H : Heap} {locs : List Loc} {C Z : Nat} (hC : C ≤ 100000) (hZ : Z ≤ 1000000) (hI : Iv LL EE LN TT lc ec) (hDk : va_P (gD g) vwCl (wsD g AD LL EE lc ec) H) (hW : SW g B so la ea ra xa ta LL EE TT lc ec H) (hS : va_S (bA s.heap.size) s.heap H locs)
    {t : Nat} {x : Int32} {D0 : Int64} (hD9 : ckV LL EE LN lc ec = D0)
    (kx : ∀ (M : Nat → ltT) (H : Heap) (locs : List Loc) (ls : Array Slot), Iv M EE LN TT lc ec → va_P (gD g) vwCl (wsD g AD M EE lc ec) H → SW g B so la ea ra xa ta M EE TT lc ec H → va_S (bA s.heap.size) s.heap H locs → lv_has ls 18 [(3, .int (nI (t))), (2, .ref (so)), (1, .ref (AD 0)), (0, .ref (b))] → W p l e room_1 s m #[Value.ref b] below meth c H locs C Z Q (F0 m 1027 ls [])) (ls : Array Slot) (hl : lv_has ls 18 [(7, .int (nI (lc))), (5, .long (D0)), (4, .int (x)), (3, .int (nI (t))), (2, .ref (so)), (1, .ref (AD 0)), (0, .ref (b))]) : W p l e room_1 s m #[Value.ref b] below meth c H locs C Z Q (F0 m 1015 ls []) := by
  have S : CallFix p m c cL_law 18 s #[Value.ref b] wsL_law RL := ⟨hx, hb, hml, hown, hts⟩
  have rC : 200000 ≤ room_1.cells := Nat.le_of_ble_eq_true rfl
  have rS : 2000000 ≤ room_1.slots := Nat.le_of_ble_eq_true rfl
  have hlc12 := hI.1
  have hec24 := hI.2.1
  have hBso : B ≤ so := hW.2.1.1
  have hB0B : s.heap.size ≤ B := hJD.2.2
  refine lv_aload_n hx hb dL_law_1015 rfl (lv_at hl 5 rfl) ?_
  refine w_V (As := []) (rest := []) S (c_X2_digest l g AD LL EE LN lc ec hI.1 hI.2.1 hI.hLL hI.hEE ) (cwV 0 hts gL_law_X2_digest rfl rfl rfl (by decide +kernel) ⟨Nat.le_of_ble_eq_true rfl, Nat.le_of_ble_eq_true rfl⟩) hK (va_recv hK.1 hDk (ci := 2) (q0 := 0) rfl dk_me) hDk hJD.D hS (fun q hq => (hJD.wA hq).1) rfl hl.1 rfl (Nat.le_of_ble_eq_true rfl) dL_law_1016 ⟨by show _ ≤ room_1.cells; omega, by show _ ≤ room_1.slots; omega⟩ (fun H locs hDk hz1 hk1 hS => ?_)
  have hC9 : CH (wA (wsD g AD LL EE lc ec)) _ H := ⟨hz1, hk1⟩
  have hW := hW.keep hC9 (fun q h1 _ h2 => by have := hJD.wA h2; omega)
  obtain ⟨M4, eM4⟩ : ∃ M : Nat → ltT, M = dgL LL lc := ⟨_, rfl⟩
  rw [← eM4] at hDk
  have hs4 : smL LL M4 := by rw [eM4]; exact smL_dg _ _
  have hI := hI.same hs4
  have hW := hW.sameL hs4
  have hm4 : smL LL M4 := hs4
  refine lv_lload hx hb dL_law_1019 (lv_at hl 1 rfl) ?_
  refine W.lcmp hx hb dL_law_1021 ?_
  refine lv_toI (z := 0) (by show lg_cmp (ckV LL EE LN lc ec) D0 = 0; rw [hD9]; exact lg_self _) ?_
  refine lv_if_eq (tgt := 1027) hx hb dL_law_1022 (by decide) (fun c1022 => ?_) (fun c1022 => ?_)
  · exact kx M4 H _ ls hI hDk hW hS (lv_sub hl [3, 4, 5, 6] rfl)
  · exact absurd rfl c1022

set_option maxHeartbeats 4000000 in
set_option maxRecDepth 100000 in
/-- the chain -/
theorem law_651 {p : Program} {e : Env} {s : State} {m : MethodId} {below : List Frame} {meth : Method} {c : Code} {Q : State → Prop} (l : Launch) (hlt : l.stackTraces = false) (g : gT) {b L : Nat} {xs : Nat → Int32} {B so : Nat} {AD : Nat → Nat} (hx : p.tables.exec = Jvm.exec) (hb : c.code = cL_law) (hml : c.maxLocals = 18) (hts : ∀ w ∈ wsL_law, w.before #[Value.ref b] s = true) (hown : s.vm.findClass RL = some m.cls) (hK : KK g s) (hZ0 : ZB s.heap.size s s.heap) (hX0 : va_X b L xs s s.heap) (hL : L < 1000) (hJD : JD s.heap.size B AD)
    {LL : Nat → ltT} {EE : Nat → evT} {LN : Nat → Nat} {TT : Nat → (Nat → Int32) × Nat} {lc ec la ea : Nat} {ra xa ta : Nat → Nat} {H : Heap} {locs : List Loc} {C Z : Nat} (hC : C ≤ 90000) (hZ : Z ≤ 900000) (hI : Iv LL EE LN TT lc ec) (hDk : va_P (gD g) vwCl (wsD g AD LL EE lc ec) H) (hW : SW g B so la ea ra xa ta LL EE TT lc ec H) (hS : va_S (bA s.heap.size) s.heap H locs)
    {t : Nat} {x : Int32} {D0 : Int64} (hD9 : ckV LL EE LN lc ec = D0)
    (kx : ∀ (M : Nat → ltT) (H : Heap) (locs : List Loc) (ls : Array Slot), Iv M EE LN TT lc ec → va_P (gD g) vwCl (wsD g AD M EE lc ec) H → SW g B so la ea ra xa ta M EE TT lc ec H → va_S (bA s.heap.size) s.heap H locs → lv_has ls 18 [(3, .int (nI (t))), (2, .ref (so)), (1, .ref (AD 0)), (0, .ref (b))] → W p l e room_1 s m #[Value.ref b] below meth c H locs (C + 24) (Z + 960) Q (F0 m 1027 ls [])) (ls : Array Slot) (hl : lv_has ls 18 [(7, .int (nI (lc))), (5, .long (D0)), (4, .int (x)), (3, .int (nI (t))), (2, .ref (so)), (1, .ref (AD 0)), (0, .ref (b))]) : W p l e room_1 s m #[Value.ref b] below meth c H locs C Z Q (F0 m 651 ls []) := by
  have S : CallFix p m c cL_law 18 s #[Value.ref b] wsL_law RL := ⟨hx, hb, hml, hown, hts⟩
  have rC : 200000 ≤ room_1.cells := Nat.le_of_ble_eq_true rfl
  have rS : 2000000 ≤ room_1.slots := Nat.le_of_ble_eq_true rfl
  have hlc12 := hI.1
  have hec24 := hI.2.1
  have hBso : B ≤ so := hW.2.1.1
  have hB0B : s.heap.size ≤ B := hJD.2.2
  refine lv_iconst (v := 1) hx hb dL_law_651 (by decide +kernel) ?_
  refine lv_toI (z := lsD EE 0) (rfl) ?_
  refine lv_istore (lv' := [(8, .int (lsD EE 0)), (7, .int (nI (lc))), (5, .long (D0)), (4, .int (x)), (3, .int (nI (t))), (2, .ref (so)), (1, .ref (AD 0)), (0, .ref (b))]) hx hb dL_law_652 hl (by decide) rfl (fun ls hl => ?_)
  refine lv_aload_n hx hb dL_law_654 rfl (lv_at hl 6 rfl) ?_
  refine p_V (As := []) (rest := []) S (c_X2_firstBroken l g AD LL EE LN lc ec hI.1 hI.2.1 hI.hLL hI.hEE ) (cwV 0 hts gL_law_X2_firstBroken rfl rfl rfl (by decide +kernel) ⟨Nat.le_of_ble_eq_true rfl, Nat.le_of_ble_eq_true rfl⟩) hK (va_recv hK.1 hDk (ci := 2) (q0 := 0) rfl dk_me) hDk rfl hl.1 rfl (Nat.le_of_ble_eq_true rfl) dL_law_655 ⟨by show _ ≤ room_1.cells; omega, by show _ ≤ room_1.slots; omega⟩ ?_
  refine lv_istore (lv' := [(9, .int (fsF (fun q => !ftD LL EE LN q) ec 0)), (8, .int (lsD EE 0)), (7, .int (nI (lc))), (5, .long (D0)), (4, .int (x)), (3, .int (nI (t))), (2, .ref (so)), (1, .ref (AD 0)), (0, .ref (b))]) hx hb dL_law_658 hl (by decide) rfl (fun ls hl => ?_)
  refine lv_iconst (v := nI (0)) hx hb dL_law_660 (by decide +kernel) ?_
  refine lv_istore (lv' := [(10, .int (nI (0))), (9, .int (fsF (fun q => !ftD LL EE LN q) ec 0)), (8, .int (lsD EE 0)), (7, .int (nI (lc))), (5, .long (D0)), (4, .int (x)), (3, .int (nI (t))), (2, .ref (so)), (1, .ref (AD 0)), (0, .ref (b))]) hx hb dL_law_661 hl (by decide) rfl (fun ls hl => ?_)
  have hbr : (fsF (fun q => !ftD LL EE LN q) ec 0 = -1 ∧ ∀ q, q < ec → ftD LL EE LN q = true) ∨ ∃ j, j < ec ∧ fsF (fun q => !ftD LL EE LN q) ec 0 = nI j ∧ ftD LL EE LN j = false ∧ ∀ x, x < j → ftD LL EE LN x = true := by
    rcases fsF_sp (P := fun q => !ftD LL EE LN q) ec 0 with ⟨e1, e2⟩ | ⟨j, j1, j2, j3, j4, j5⟩
    · exact Or.inl ⟨e1, fun q hq => by
        have h9 : (!ftD LL EE LN q) = false := e2 q (Nat.zero_le q) (by omega)
        rw [Bool.not_eq_false'] at h9
        exact h9⟩
    · exact Or.inr ⟨j, by omega, j3, by
        have h9 : (!ftD LL EE LN j) = true := j4
        rw [Bool.not_eq_true'] at h9
        exact h9, fun x hx => by
        have h9 : (!ftD LL EE LN x) = false := j5 x (Nat.zero_le x) hx
        rw [Bool.not_eq_false'] at h9
        exact h9⟩
  exact W.widen (by omega) (by omega) (law_663 l hlt g hx hb hml hts hown hK hZ0 hX0 hL hJD (C := C) (Z := Z) hC hZ hI hBso hbr (fun H locs ls hDk hW hS hl => law_1015 l hlt g hx hb hml hts hown hK hZ0 hX0 hL hJD (by omega) (by omega) hI hDk hW hS hD9 kx ls hl) (ec + 1) 0 H _ ls (by omega) (Nat.zero_le _) hDk hW hS (lv_sub hl [0, 1, 2, 3, 4, 5, 6, 7, 8, 9] rfl))

set_option maxHeartbeats 4000000 in
set_option maxRecDepth 100000 in
/-- a time, behind the acts -/
theorem law_79 {p : Program} {e : Env} {s : State} {m : MethodId} {below : List Frame} {meth : Method} {c : Code} {Q : State → Prop} (l : Launch) (hlt : l.stackTraces = false) (g : gT) {b L : Nat} {xs : Nat → Int32} {B so : Nat} {AD : Nat → Nat} (hx : p.tables.exec = Jvm.exec) (hb : c.code = cL_law) (hml : c.maxLocals = 18) (hts : ∀ w ∈ wsL_law, w.before #[Value.ref b] s = true) (hown : s.vm.findClass RL = some m.cls) (hK : KK g s) (hZ0 : ZB s.heap.size s s.heap) (hX0 : va_X b L xs s s.heap) (hL : L < 1000) (hJD : JD s.heap.size B AD)
    {LL : Nat → ltT} {EE : Nat → evT} {LN : Nat → Nat} {TT : Nat → (Nat → Int32) × Nat} {lc ec la ea : Nat} {ra xa ta : Nat → Nat} {H : Heap} {locs : List Loc} {C Z : Nat} (hC : C ≤ 80000) (hZ : Z ≤ 800000) (hI : Iv LL EE LN TT lc ec) (hDk : va_P (gD g) vwCl (wsD g AD LL EE lc ec) H) (hW : SW g B so la ea ra xa ta LL EE TT lc ec H) (hS : va_S (bA s.heap.size) s.heap H locs)
    {t : Nat} {x : Int32}
    (kx : ∀ (M : Nat → ltT) (H : Heap) (locs : List Loc) (ls : Array Slot), Iv M EE LN TT lc ec → va_P (gD g) vwCl (wsD g AD M EE lc ec) H → SW g B so la ea ra xa ta M EE TT lc ec H → va_S (bA s.heap.size) s.heap H locs → lv_has ls 18 [(3, .int (nI (t))), (2, .ref (so)), (1, .ref (AD 0)), (0, .ref (b))] → W p l e room_1 s m #[Value.ref b] below meth c H locs (C + 1464) (Z + 58560) Q (F0 m 1027 ls [])) (ls : Array Slot) (hl : lv_has ls 18 [(4, .int (x)), (3, .int (nI (t))), (2, .ref (so)), (1, .ref (AD 0)), (0, .ref (b))]) : W p l e room_1 s m #[Value.ref b] below meth c H locs C Z Q (F0 m 79 ls []) := by
  have S : CallFix p m c cL_law 18 s #[Value.ref b] wsL_law RL := ⟨hx, hb, hml, hown, hts⟩
  have rC : 200000 ≤ room_1.cells := Nat.le_of_ble_eq_true rfl
  have rS : 2000000 ≤ room_1.slots := Nat.le_of_ble_eq_true rfl
  have hlc12 := hI.1
  have hec24 := hI.2.1
  have hBso : B ≤ so := hW.2.1.1
  have hB0B : s.heap.size ≤ B := hJD.2.2
  refine lv_aload_n hx hb dL_law_79 rfl (lv_at hl 3 rfl) ?_
  refine w_V (As := []) (rest := []) S (c_X2_digest l g AD LL EE LN lc ec hI.1 hI.2.1 hI.hLL hI.hEE ) (cwV 0 hts gL_law_X2_digest rfl rfl rfl (by decide +kernel) ⟨Nat.le_of_ble_eq_true rfl, Nat.le_of_ble_eq_true rfl⟩) hK (va_recv hK.1 hDk (ci := 2) (q0 := 0) rfl dk_me) hDk hJD.D hS (fun q hq => (hJD.wA hq).1) rfl hl.1 rfl (Nat.le_of_ble_eq_true rfl) dL_law_80 ⟨by show _ ≤ room_1.cells; omega, by show _ ≤ room_1.slots; omega⟩ (fun H locs hDk hz1 hk1 hS => ?_)
  have hC9 : CH (wA (wsD g AD LL EE lc ec)) _ H := ⟨hz1, hk1⟩
  have hW := hW.keep hC9 (fun q h1 _ h2 => by have := hJD.wA h2; omega)
  obtain ⟨M5, eM5⟩ : ∃ M : Nat → ltT, M = dgL LL lc := ⟨_, rfl⟩
  rw [← eM5] at hDk
  have hs5 : smL LL M5 := by rw [eM5]; exact smL_dg _ _
  have hI := hI.same hs5
  have hW := hW.sameL hs5
  have hm5 : smL LL M5 := hs5
  refine lv_lstore (lv' := [(5, .long (ckV LL EE LN lc ec)), (4, .int (x)), (3, .int (nI (t))), (2, .ref (so)), (1, .ref (AD 0)), (0, .ref (b))]) hx hb dL_law_83 hl (by decide) rfl (fun ls hl => ?_)
  refine lv_aload_n hx hb dL_law_85 rfl (lv_at hl 4 rfl) ?_
  refine p_V (As := []) (rest := []) S (c_X2_letters l g AD M5 EE LN lc ec hI.1 hI.2.1 hI.hLL hI.hEE ) (cwV 0 hts gL_law_X2_letters rfl rfl rfl (by decide +kernel) ⟨Nat.le_of_ble_eq_true rfl, Nat.le_of_ble_eq_true rfl⟩) hK (va_recv hK.1 hDk (ci := 2) (q0 := 0) rfl dk_me) hDk rfl hl.1 rfl (Nat.le_of_ble_eq_true rfl) dL_law_86 ⟨by show _ ≤ room_1.cells; omega, by show _ ≤ room_1.slots; omega⟩ ?_
  refine lv_istore (lv' := [(7, .int (nI (lc))), (5, .long (ckV LL EE LN lc ec)), (4, .int (x)), (3, .int (nI (t))), (2, .ref (so)), (1, .ref (AD 0)), (0, .ref (b))]) hx hb dL_law_89 hl (by decide) rfl (fun ls hl => ?_)
  refine lv_iconst (v := nI (0)) hx hb dL_law_91 (by decide +kernel) ?_
  refine lv_istore (lv' := [(8, .int (nI (0))), (7, .int (nI (lc))), (5, .long (ckV LL EE LN lc ec)), (4, .int (x)), (3, .int (nI (t))), (2, .ref (so)), (1, .ref (AD 0)), (0, .ref (b))]) hx hb dL_law_92 hl (by decide) rfl (fun ls hl => ?_)
  exact law_94 l hlt g hx hb hml hts hown hK hZ0 hX0 hL hJD (LL := LL) (C := C) (Z := Z) (by omega) (by omega) hI.1 hBso (fun M H locs ls hsm hI hDk hW hS hl => W.widen (by omega) (by omega) (law_651 l hlt g hx hb hml hts hown hK hZ0 hX0 hL hJD (C := C + 1440) (Z := Z + 57600) (by omega) (by omega) hI hDk hW hS (ck_same hsm) kx ls hl)) (lc + 1) 0 M5 H _ ls (by omega) (Nat.zero_le _) hm5 hI hDk hW hS (lv_sub hl [0, 1, 2, 3, 4, 5, 6, 7] rfl)

set_option maxHeartbeats 4000000 in
set_option maxRecDepth 100000 in
/-- five times -/
theorem law_22 {p : Program} {e : Env} {s : State} {m : MethodId} {below : List Frame} {meth : Method} {c : Code} {Q : State → Prop} (l : Launch) (hlt : l.stackTraces = false) (g : gT) {b L : Nat} {xs : Nat → Int32} {B so : Nat} {AD : Nat → Nat} (hx : p.tables.exec = Jvm.exec) (hb : c.code = cL_law) (hml : c.maxLocals = 18) (hts : ∀ w ∈ wsL_law, w.before #[Value.ref b] s = true) (hown : s.vm.findClass RL = some m.cls) (hK : KK g s) (hZ0 : ZB s.heap.size s s.heap) (hX0 : va_X b L xs s s.heap) (hL : L < 1000) (hJD : JD s.heap.size B AD)
    (kx : ∀ (LL : Nat → ltT) (EE : Nat → evT) (LN : Nat → Nat) (TT : Nat → (Nat → Int32) × Nat) (lc ec la ea : Nat) (ra xa ta : Nat → Nat) (H : Heap) (locs : List Loc) (ls : Array Slot), JW g B AD so LL EE LN TT lc ec la ea ra xa ta H → va_S (bA s.heap.size) s.heap H locs → lv_has ls 18 [(2, .ref (so)), (1, .ref (AD 0)), (0, .ref (b))] → W p l e room_1 s m #[Value.ref b] below meth c H locs 10000 400000 Q (F0 m 1033 ls [])) : ∀ (k1 t : Nat) (LL : Nat → ltT) (EE : Nat → evT) (LN : Nat → Nat) (TT : Nat → (Nat → Int32) × Nat) (lc ec la ea : Nat) (ra xa ta : Nat → Nat) (H : Heap) (locs : List Loc) (ls : Array Slot), 5 - t < k1 → t ≤ 5 → JW g B AD so LL EE LN TT lc ec la ea ra xa ta H → va_S (bA s.heap.size) s.heap H locs → lv_has ls 18 [(3, .int (nI (t))), (2, .ref (so)), (1, .ref (AD 0)), (0, .ref (b))] → W p l e room_1 s m #[Value.ref b] below meth c H locs (500 + 1600 * t) (20000 + 60000 * t) Q (F0 m 22 ls []) := by
  have S : CallFix p m c cL_law 18 s #[Value.ref b] wsL_law RL := ⟨hx, hb, hml, hown, hts⟩
  have rC : 200000 ≤ room_1.cells := Nat.le_of_ble_eq_true rfl
  have rS : 2000000 ≤ room_1.slots := Nat.le_of_ble_eq_true rfl
  have hB0B : s.heap.size ≤ B := hJD.2.2

  intro k1
  induction k1 with
  | zero => intro t LL EE LN TT lc ec la ea ra xa ta H locs ls hFu; exact absurd hFu (Nat.not_lt_zero _)
  | succ k1 ih =>
    intro t LL EE LN TT lc ec la ea ra xa ta H locs ls hFu hLe hJ hS hl
    refine lv_iload_n hx hb dL_law_22 rfl (lv_at hl 0 rfl) ?_
    refine lv_iconst (v := nI (5)) hx hb dL_law_23 (by decide +kernel) ?_
    refine br_ge (a := t) (b := 5) (tgt := 1033) hx hb (by omega) (by omega) dL_law_24 (by decide) (fun c24 => ?_) (fun c24 => ?_)
    · exact W.widen (by omega) (by omega) (kx _ _ _ _ _ _ _ _ _ _ _ H _ ls hJ hS (lv_sub hl [1, 2, 3] rfl))
    · have hX := hX0.kept ((va_S.ch hS).2 b (X_lt hX0) (fun z => absurd (X_lt hX0) (Nat.not_lt.mpr z)))
      refine lv_aload_n hx hb dL_law_27 rfl (lv_at hl 3 rfl) ?_
      refine lv_iload_n hx hb dL_law_28 rfl (lv_at hl 0 rfl) ?_
      refine ce_S (g := g) (k := t) (rest := []) S (by omega) hL (va_cwS 2 hts gL_law_L_cell rfl rfl rfl (by decide +kernel) ⟨Nat.le_of_ble_eq_true rfl, Nat.le_of_ble_eq_true rfl⟩) hK hX hl.1 rfl (Nat.le_of_ble_eq_true rfl) dL_law_29 ⟨by show _ ≤ room_1.cells; omega, by show _ ≤ room_1.slots; omega⟩ ?_
      refine lv_iconst (v := 2) hx hb dL_law_32 (by decide +kernel) ?_
      refine lv_ishr hx hb dL_law_33 ?_
      refine lv_bipush (v := 53) hx hb dL_law_34 (by decide +kernel) ?_
      refine lv_iload_n hx hb dL_law_36 rfl (lv_at hl 0 rfl) ?_
      refine lv_imul hx hb dL_law_37 ?_
      refine lv_iadd hx hb dL_law_38 ?_
      obtain ⟨x, ex⟩ : ∃ x : Int32, x = ((ceV L xs t) >>> ((2) &&& 31)) + ((53) * (nI (t))) := ⟨_, rfl⟩
      refine lv_toI (z := x) (ex.symm) ?_
      refine lv_istore (lv' := [(4, .int (x)), (3, .int (nI (t))), (2, .ref (so)), (1, .ref (AD 0)), (0, .ref (b))]) hx hb dL_law_39 hl (by decide) rfl (fun ls hl => ?_)
      refine lv_iconst (v := nI (0)) hx hb dL_law_41 (by decide +kernel) ?_
      refine lv_istore (lv' := [(5, .int (nI (0))), (4, .int (x)), (3, .int (nI (t))), (2, .ref (so)), (1, .ref (AD 0)), (0, .ref (b))]) hx hb dL_law_42 hl (by decide) rfl (fun ls hl => ?_)
      refine law_44 l hlt g hx hb hml hts hown hK hZ0 hX0 hL hJD (C := 500 + 1600 * t) (Z := 20000 + 60000 * t) (by omega) (by omega) (fun LL EE LN TT lc ec la ea ra xa ta H locs ls hJ hS hl => ?_) 6 0 _ _ _ _ _ _ _ _ _ _ _ H _ ls (by omega) (by omega) hJ hS (lv_sub hl [0, 1, 2, 3, 4, 5] rfl)
      refine law_79 l hlt g hx hb hml hts hown hK hZ0 hX0 hL hJD (C := 500 + 1600 * t + 35) (Z := 20000 + 60000 * t + 1100) (by omega) (by omega) hJ.1 hJ.2.1 hJ.2.2 hS (fun M H locs ls hI hDk hW hS hl => ?_) ls hl
      refine lv_iinc (v := nI (t + 1)) (lv' := [(3, .int (nI (t + 1))), (2, .ref so), (1, .ref (AD 0)), (0, .ref b)]) hx hb dL_law_1027 hl (k := 0) rfl (nI_1 _) (by decide) rfl (fun ls hl => ?_)
      refine lv_goto (tgt := 22) hx hb dL_law_1030 (by decide) ?_
      exact W.widen (by omega) (by omega) (ih (t + 1) M _ _ _ _ _ _ _ _ _ _ H _ ls (by omega) (by omega) ⟨hI, hDk, hW⟩ hS hl)

theorem op_blind {g : gT} {av : List Value} {sz : Nat} {ws : va_W} : FrameBlind (va_Pc av (fun U => U.heap.size = sz ∧ KK g U ∧ va_P (gD g) vwCl ws U.heap ∧ va_AO RX1 U ∧ va_AO RX0 U)) := fun a U f mk h => ⟨h.1, h.2.1, h.2.2.1.calling, h.2.2.2.1, va_AO.moved (u := U) (U := U.calling f mk a) (Vm.Alike.refl U.vm) h.2.2.2.2.1, va_AO.moved (u := U) (U := U.calling f mk a) (Vm.Alike.refl U.vm) h.2.2.2.2.2⟩
set_option maxHeartbeats 4000000 in
set_option maxRecDepth 100000 in
theorem law_entry {p : Program} {e : Env} {s : State} {m : MethodId} {below : List Frame} {meth : Method} {c : Code} {Q : State → Prop} (l : Launch) (hlt : l.stackTraces = false) (g : gT) {b L : Nat} {xs : Nat → Int32} (hx : p.tables.exec = Jvm.exec) (hb : c.code = cL_law) (hml : c.maxLocals = 18) (hts : ∀ w ∈ wsL_law, w.before #[Value.ref b] s = true) (hown : s.vm.findClass RL = some m.cls) (hK : KK g s) (hZ0 : ZB s.heap.size s s.heap) (hX0 : va_X b L xs s s.heap) (hL : L < 1000) (hO1 : va_AO RX1 s) (hO0 : va_AO RX0 s) {ls : Array Slot} (hl : lv_has ls 18 [(0, .ref b)])
    (kx : ∀ (H : Heap) (ls : Array Slot), W p l e room_1 s m #[Value.ref b] below meth c H [] room_1.cells room_1.slots Q (F0 m 1038 ls [.int 1])) : W p l e room_1 s m #[Value.ref b] below meth c s.heap [] 0 0 Q (F0 m 0 ls []) := by
  have S : CallFix p m c cL_law 18 s #[Value.ref b] wsL_law RL := ⟨hx, hb, hml, hown, hts⟩
  have rC : 200000 ≤ room_1.cells := Nat.le_of_ble_eq_true rfl
  have rS : 2000000 ≤ room_1.slots := Nat.le_of_ble_eq_true rfl
  have hA : ∀ q : Nat, s.heap.size ≤ q → bA s.heap.size q := fun _ h => h
  have hS : va_S (bA s.heap.size) s.heap s.heap [] := va_S.rf
  have hP : va_P (gD g) vwCl [] s.heap := fun k q h => by simp at h
  have hD : va_D (bA s.heap.size) [] := ⟨fun i j p q h => by simp at h, fun k q h => by simp at h⟩
  refine va_new (D := gD g) (ci := 2) (fs := [.null, .null, .int 0, .int 0]) (C := RX2) (T := TX2) (N := 4) hx hb hts inlX2 tyX2 tyX2_ok hown (hts (.classLink RL 26 RX2) (by decide +kernel)) (hts (.instantiable RX2 4) (by decide +kernel)) (hts (.initialized RX2) (by decide +kernel)) hK.1 hP hD hS hA rfl (fun x hx9 => match x, hx9 with | 0, _ => rfl | 1, _ => rfl | 2, _ => rfl | 3, _ => rfl) (Nat.le_of_ble_eq_true rfl) (Nat.le_of_ble_eq_true rfl) dL_law_0 (fun q2 H hP hD hS => ?_)
  refine lv_dup hx hb dL_law_3 rfl ?_
  have hq : bA s.heap.size q2 := hD.2 0 (q2, _) rfl
  refine va_callv (va_runI (As := []) (rest := [.ref q2]) (g := F0 m 4 ls [.ref q2, .ref q2]) S (c_X2_init l g q2 H.size) (cwI 0 hts gL_law_X2_init rfl rfl rfl (hts (.initialized RX2) (by decide +kernel)) (hts (.methodLink RL 92 yX2_init) (by decide +kernel)) (hts (.instanceMethod yX2_init) (by decide +kernel)) rfl (by decide +kernel) ⟨Nat.le_of_ble_eq_true rfl, Nat.le_of_ble_eq_true rfl⟩) ⟨op_blind, fun U hU hWm => ⟨rfl, by rw [hU], hK.warm hWm, by rw [hU]; exact hP, va_AO.moved hWm.alike hO1, va_AO.moved hWm.alike hO0⟩⟩ rfl rfl hl.1 rfl (Nat.le_of_ble_eq_true rfl) dL_law_4 ⟨Nat.le_of_ble_eq_true rfl, Nat.le_of_ble_eq_true rfl⟩) hS (fun x _ h9 => fr_in hq hS hA x h9) (fun x h9 => fr_in hq hS hA x h9) (fun AD t H1 locs1 ht _ _ hB hz1 hk1 hS1 => ?_)
  subst ht
  obtain ⟨hA0, hP1, hD1⟩ := hB
  obtain ⟨hP, hD⟩ := mk_join (ws := []) hP hD hk1 (fr_in hq hS hA) hP1 hD1
  have hDk : va_P (gD g) vwCl (wsD g AD L0 E0 0 0) t.heap := hP
  have hD : va_D (bA s.heap.size) (wsD g AD L0 E0 0 0) := hD
  have hJD : JD s.heap.size t.heap.size AD := ⟨fun j k hj hk e => dk_inj hD hj hk e, fun k hk => ⟨dk_A hD hk, dk_lt_size hDk hk⟩, hS1.1⟩
  have hZ := hZ0.kept (va_S.ch hS1) (fun q z => z)
  have hX := hX0.kept ((va_S.ch hS1).2 b (X_lt hX0) (fun z => absurd (X_lt hX0) (Nat.not_lt.mpr z)))
  refine lv_astore_n (lv' := [(1, .ref q2), (0, .ref b)]) hx hb dL_law_7 rfl hl (by decide) rfl (fun ls hl => ?_)
  rw [← hA0] at hl
  refine lv_aload_n hx hb dL_law_8 rfl (lv_at hl 0 rfl) ?_
  refine lv_aload_n hx hb dL_law_9 rfl (lv_at hl 1 rfl) ?_
  refine n_call (A1 := bA s.heap.size) (va_runS S (c_L_build l hlt g t.heap.size hJD (X_lt hX0) hL) (va_cwS 2 hts gL_law_L_build rfl rfl rfl (by decide +kernel) ⟨Nat.le_of_ble_eq_true rfl, Nat.le_of_ble_eq_true rfl⟩) ⟨bPc_blind, fun U hU hWm => ⟨rfl, by rw [hU], hK.warm hWm, by rw [hU]; exact hZ.moved hWm.alike, by rw [hU]; exact hX.moved hWm.alike, by rw [hU]; exact hDk⟩⟩ rfl rfl hl.1 rfl (Nat.le_of_ble_eq_true rfl) dL_law_10 ⟨by show _ ≤ room_1.cells; omega, by show _ ≤ room_1.slots; omega⟩) hS1 (fun q z => z) (fun q z => z) (fun v H locs hpost hC hS => ?_)
  obtain ⟨so, LL, EE, LN, TT, lc, ec, la, ea, ra, xa, ta, rfl, hJ⟩ := hpost
  refine lv_astore_n (lv' := [(2, .ref so), (1, .ref (AD 0)), (0, .ref b)]) hx hb dL_law_13 rfl hl (by decide) rfl (fun ls hl => ?_)
  refine lv_aload_n hx hb dL_law_14 rfl (lv_at hl 0 rfl) ?_
  refine lv_ifnonnull (tgt := 20) hx hb dL_law_15 (by decide) ?_
  refine lv_iconst (v := nI 0) hx hb dL_law_20 (by decide +kernel) ?_
  refine lv_istore_n (lv' := [(3, .int (nI 0)), (2, .ref so), (1, .ref (AD 0)), (0, .ref b)]) hx hb dL_law_21 rfl hl (by decide) rfl (fun ls hl => ?_)
  refine W.widen (by omega) (by omega) (law_22 l hlt g hx hb hml hts hown hK hZ0 hX0 hL hJD (fun LL EE LN TT lc ec la ea ra xa ta H locs ls hJ hS hl => ?_) 6 0 LL EE LN TT lc ec la ea ra xa ta H _ ls (by omega) (by omega) hJ hS hl)
  obtain ⟨hI, hDk, hW⟩ := hJ
  refine lv_aload_n hx hb dL_law_1033 rfl (lv_at hl 0 rfl) ?_
  refine lv_aload_n hx hb dL_law_1034 rfl (lv_at hl 1 rfl) ?_
  refine p_V (As := [.ref (AD 0)]) (rest := []) S (c_X4_isSame l g t.heap.size so la ea ra xa ta AD LL EE LN TT lc ec hI) (cwV 1 hts gL_law_X4_isSame rfl rfl rfl (by decide +kernel) ⟨Nat.le_of_ble_eq_true rfl, Nat.le_of_ble_eq_true rfl⟩) hK (va_recv hK.1 hW.1.1 (ci := 4) (q0 := 0) rfl rfl) ⟨hDk, hW⟩ rfl hl.1 rfl (Nat.le_of_ble_eq_true rfl) dL_law_1035 ⟨by show _ ≤ room_1.cells; omega, by show _ ≤ room_1.slots; omega⟩ ?_
  exact va_forget (fun q hq => hS.2.2 q hq) (W.widen (by omega) (by omega) (kx H ls))
