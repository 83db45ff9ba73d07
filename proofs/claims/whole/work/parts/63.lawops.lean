/-! THE LAW'S OPERATIONS: from the operation's first instruction to the loop's end, for the class and the reference together -/
theorem cmp_eq (x : Int64) : lg_cmp x x = 0 := by
  unfold lg_cmp
  simp
def lLoc (b AD0 h ou i : Nat) : List (Nat × Value) := [(4, .int (nI i)), (3, .ref ou), (2, .ref h), (1, .ref AD0), (0, .ref b)]

set_option maxHeartbeats 4000000 in
set_option maxRecDepth 100000 in
theorem law_addLetter {p : Program} {e : Env} {s : State} {m : MethodId} {below : List Frame} {meth : Method} {c : Code} {Q : State → Prop} (l : Launch) (hlt : l.stackTraces = false) (g : gT) {b L : Nat} {xs : Nat → Int32} {AD : Nat → Nat} {h : Nat} {X : Nat → Nat} {ou : Nat} (hx : p.tables.exec = Jvm.exec) (hb : c.code = cL_law) (hml : c.maxLocals = 9) (hts : ∀ w ∈ wsL_law, w.before #[Value.ref b] s = true) (hown : s.vm.findClass RL = some m.cls) (hK : KK g s) (hZ : ZZ s s.heap) (hX : va_X b L xs s s.heap) (hbl : b < s.heap.size) (hL : L ≤ 2048) (hD : LD g (hiA s) AD h X ou)
    {LL : Nat → ltT} {EE : Nat → evT} {LN : Nat → Nat} {lc ec : Nat} {V : Nat → Nat → Int32} {th : Int32} {v : Int64} {H : Heap} {cells slots i : Nat} {ls : Array Slot} (I : Inv LL EE LN lc ec V) (hW : LW g AD LL EE lc ec h X V th ou v H) (hS : va_S (hiA s) s.heap H []) (hi : i + 4 ≤ L) (hcl : cells + 36 ≤ room_1.cells) (hsl : slots + 264 ≤ room_1.slots) (hl : lv_has ls 9 [(4, .int (nI i)), (3, .ref ou), (2, .ref h), (1, .ref (AD 0)), (0, .ref b)])
    (kk : ∀ (LL : Nat → ltT) (EE : Nat → evT) (LN : Nat → Nat) (lc ec : Nat) (V : Nat → Nat → Int32) (th : Int32) (v : Int64) (H : Heap) (ls : Array Slot), Inv LL EE LN lc ec V → LW g AD LL EE lc ec h X V th ou v H → va_S (hiA s) s.heap H [] → lv_has ls 9 [(4, .int (nI i)), (3, .ref ou), (2, .ref h), (1, .ref (AD 0)), (0, .ref b)] → W p l e room_1 s m #[Value.ref b] below meth c H [] (cells + 36) (slots + 264) Q (F0 m 2038 ls [])) : W p l e room_1 s m #[Value.ref b] below meth c H [] cells slots Q (F0 m 192 ls []) := by
  have S : CallFix p m c cL_law 9 s #[Value.ref b] wsL_law RL := ⟨hx, hb, hml, hown, hts⟩
  obtain ⟨code, r, v2, LL2, EE2, LN2, lc2, ec2, V2, rm, hw1, ⟨r1, r2, r3, r4⟩, hw2, I2, hv⟩ := op_addLetter l hlt g AD h X LL EE LN lc ec V th ou v I 
  refine lv_aload_n hx hb dL_law_192 rfl (lv_at hl 3 rfl) ?_
  refine lv_aload_n hx hb dL_law_193 rfl (lv_at hl 1 rfl) ?_
  refine lw_W (h := h) (X := X) (As := [.ref (AD 0), .ref (ou)]) (rest := []) S hw1 (vx_cwSW 2 hts gL_law_L_addLetter rfl rfl rfl (by decide +kernel) ⟨Nat.le_of_ble_eq_true rfl, Nat.le_of_ble_eq_true rfl⟩) hK hZ hD hW hS rfl hl.1 rfl (Nat.le_of_ble_eq_true rfl) dL_law_194 ⟨by show _ ≤ room_1.cells; omega, by show _ ≤ room_1.slots; omega⟩ (fun H hP hPm hO hS => ?_)
  refine lv_istore (lv' := [(5, .int (code)), (4, .int (nI i)), (3, .ref (ou)), (2, .ref (h)), (1, .ref (AD 0)), (0, .ref (b))]) hx hb dL_law_197 hl (by decide) rfl (fun ls hl => ?_)
  refine lv_aload_n hx hb dL_law_199 rfl (lv_at hl 3 rfl) ?_
  refine lw_M (As := []) (rest := []) S hw2 (cwV 0 hts gL_law_X3_addLetter rfl r2 r3 (by decide +kernel) ⟨by show rm.frames + 1 ≤ 12; omega, by show 8 + (1 + 11) + rm.locals ≤ 436; omega⟩) hK (va_recv hK.1 hPm (ci := 3) (q0 := 0) rfl rfl) hD hP hPm hO hS rfl hl.1 rfl (Nat.le_of_ble_eq_true rfl) dL_law_200 ⟨by show _ ≤ room_1.cells; omega, by show _ ≤ room_1.slots; omega⟩ (fun H hW hS => ?_)
  refine lv_istore (lv' := [(6, .int (r)), (5, .int (code)), (4, .int (nI i)), (3, .ref (ou)), (2, .ref (h)), (1, .ref (AD 0)), (0, .ref (b))]) hx hb dL_law_203 hl (by decide) rfl (fun ls hl => ?_)
  refine lv_aload_n hx hb dL_law_205 rfl (lv_at hl 4 rfl) ?_
  refine p_V (As := []) (rest := []) S (c_X3_thrown l g h X V2 code lc2 ec2) (cwV 0 hts gL_law_X3_thrown rfl rfl rfl (by decide +kernel) ⟨Nat.le_of_ble_eq_true rfl, Nat.le_of_ble_eq_true rfl⟩) hK (va_recv hK.1 hW.2.1 (ci := 3) (q0 := 0) rfl rfl) hW.2.1 rfl hl.1 rfl (Nat.le_of_ble_eq_true rfl) dL_law_206 ⟨by show _ ≤ room_1.cells; omega, by show _ ≤ room_1.slots; omega⟩ ?_
  refine lv_iload hx hb dL_law_209 (lv_at hl 1 rfl) ?_
  refine lv_icmp_eq (tgt := 216) hx hb dL_law_211 (by decide) (fun _ => ?_) (fun z => absurd rfl z)
  refine lv_iload hx hb dL_law_216 (lv_at hl 1 rfl) ?_
  refine lv_if_ne (tgt := 233) hx hb dL_law_218 (by decide) (fun cz => ?_) (fun cz => ?_)
  · exact W.widen (by omega) (by omega) (lv_goto (tgt := 2038) hx hb dL_law_233 (by decide) (kk _ _ _ _ _ _ _ _ _ _ I2 hW hS (lv_sub hl [2, 3, 4, 5, 6] rfl)))
  refine lv_aload_n hx hb dL_law_221 rfl (lv_at hl 3 rfl) ?_
  refine lv_iconst (v := 0) hx hb dL_law_222 (by decide +kernel) ?_
  refine lw_gets hx hb hK hW.2.2 dL_law_223 ?_
  refine lv_toJ (z := r.toInt64) (hv cz) ?_
  refine lv_iload hx hb dL_law_224 (lv_at hl 0 rfl) ?_
  refine lv_i2l (v := r.toInt64) hx hb dL_law_226 rfl ?_
  refine W.lcmp hx hb dL_law_227 ?_
  refine lv_toI (z := 0) (cmp_eq _) ?_
  refine lv_if_eq (tgt := 233) hx hb dL_law_228 (by decide) (fun _ => ?_) (fun z => absurd rfl z)
  exact W.widen (by omega) (by omega) (lv_goto (tgt := 2038) hx hb dL_law_233 (by decide) (kk _ _ _ _ _ _ _ _ _ _ I2 hW hS (lv_sub hl [2, 3, 4, 5, 6] rfl)))

set_option maxHeartbeats 4000000 in
set_option maxRecDepth 100000 in
theorem law_copyLetter {p : Program} {e : Env} {s : State} {m : MethodId} {below : List Frame} {meth : Method} {c : Code} {Q : State → Prop} (l : Launch) (hlt : l.stackTraces = false) (g : gT) {b L : Nat} {xs : Nat → Int32} {AD : Nat → Nat} {h : Nat} {X : Nat → Nat} {ou : Nat} (hx : p.tables.exec = Jvm.exec) (hb : c.code = cL_law) (hml : c.maxLocals = 9) (hts : ∀ w ∈ wsL_law, w.before #[Value.ref b] s = true) (hown : s.vm.findClass RL = some m.cls) (hK : KK g s) (hZ : ZZ s s.heap) (hX : va_X b L xs s s.heap) (hbl : b < s.heap.size) (hL : L ≤ 2048) (hD : LD g (hiA s) AD h X ou)
    {LL : Nat → ltT} {EE : Nat → evT} {LN : Nat → Nat} {lc ec : Nat} {V : Nat → Nat → Int32} {th : Int32} {v : Int64} {H : Heap} {cells slots i : Nat} {ls : Array Slot} (I : Inv LL EE LN lc ec V) (hW : LW g AD LL EE lc ec h X V th ou v H) (hS : va_S (hiA s) s.heap H []) (hi : i + 4 ≤ L) (hcl : cells + 36 ≤ room_1.cells) (hsl : slots + 264 ≤ room_1.slots) (hl : lv_has ls 9 [(4, .int (nI i)), (3, .ref ou), (2, .ref h), (1, .ref (AD 0)), (0, .ref b)])
    (kk : ∀ (LL : Nat → ltT) (EE : Nat → evT) (LN : Nat → Nat) (lc ec : Nat) (V : Nat → Nat → Int32) (th : Int32) (v : Int64) (H : Heap) (ls : Array Slot), Inv LL EE LN lc ec V → LW g AD LL EE lc ec h X V th ou v H → va_S (hiA s) s.heap H [] → lv_has ls 9 [(4, .int (nI i)), (3, .ref ou), (2, .ref h), (1, .ref (AD 0)), (0, .ref b)] → W p l e room_1 s m #[Value.ref b] below meth c H [] (cells + 36) (slots + 264) Q (F0 m 2038 ls [])) : W p l e room_1 s m #[Value.ref b] below meth c H [] cells slots Q (F0 m 236 ls []) := by
  have S : CallFix p m c cL_law 9 s #[Value.ref b] wsL_law RL := ⟨hx, hb, hml, hown, hts⟩
  obtain ⟨code, r, v2, LL2, EE2, LN2, lc2, ec2, V2, rm, hw1, ⟨r1, r2, r3, r4⟩, hw2, I2, hv⟩ := op_copyLetter l hlt g AD h X LL EE LN lc ec V th ou v I (xs (nI (i + 1)).toNatClampNeg)
  refine lv_aload_n hx hb dL_law_236 rfl (lv_at hl 3 rfl) ?_
  refine lv_aload_n hx hb dL_law_237 rfl (lv_at hl 4 rfl) ?_
  refine lv_iload hx hb dL_law_238 (lv_at hl 0 rfl) ?_
  refine lv_iconst (v := nI 1) hx hb dL_law_240 (by decide +kernel) ?_
  refine lv_iadd hx hb dL_law_241 ?_
  refine lv_toI (z := nI (i + 1)) (nI_add _ _) ?_
  refine va_sld hx hb hX hbl (Nat.not_le.mpr hbl) hS (vp_in_nI (by omega) (by omega)) dL_law_242 ?_
  refine lv_aload_n hx hb dL_law_243 rfl (lv_at hl 1 rfl) ?_
  refine lw_W (h := h) (X := X) (As := [.ref (AD 0), .int (xs (nI (i + 1)).toNatClampNeg), .ref (ou)]) (rest := []) S hw1 (vx_cwSW 3 hts gL_law_L_copyLetter rfl rfl rfl (by decide +kernel) ⟨Nat.le_of_ble_eq_true rfl, Nat.le_of_ble_eq_true rfl⟩) hK hZ hD hW hS rfl hl.1 rfl (Nat.le_of_ble_eq_true rfl) dL_law_244 ⟨by show _ ≤ room_1.cells; omega, by show _ ≤ room_1.slots; omega⟩ (fun H hP hPm hO hS => ?_)
  refine lv_istore (lv' := [(5, .int (code)), (4, .int (nI i)), (3, .ref (ou)), (2, .ref (h)), (1, .ref (AD 0)), (0, .ref (b))]) hx hb dL_law_247 hl (by decide) rfl (fun ls hl => ?_)
  refine lv_aload_n hx hb dL_law_249 rfl (lv_at hl 3 rfl) ?_
  refine lv_aload_n hx hb dL_law_250 rfl (lv_at hl 5 rfl) ?_
  refine lv_iload hx hb dL_law_251 (lv_at hl 1 rfl) ?_
  refine lv_iconst (v := nI 1) hx hb dL_law_253 (by decide +kernel) ?_
  refine lv_iadd hx hb dL_law_254 ?_
  refine lv_toI (z := nI (i + 1)) (nI_add _ _) ?_
  refine va_sld hx hb hX hbl (Nat.not_le.mpr hbl) hS (vp_in_nI (by omega) (by omega)) dL_law_255 ?_
  refine lw_M (As := [.int (xs (nI (i + 1)).toNatClampNeg)]) (rest := []) S hw2 (cwV 1 hts gL_law_X3_copyLetter rfl r2 r3 (by decide +kernel) ⟨by show rm.frames + 1 ≤ 12; omega, by show 8 + (2 + 11) + rm.locals ≤ 436; omega⟩) hK (va_recv hK.1 hPm (ci := 3) (q0 := 0) rfl rfl) hD hP hPm hO hS rfl hl.1 rfl (Nat.le_of_ble_eq_true rfl) dL_law_256 ⟨by show _ ≤ room_1.cells; omega, by show _ ≤ room_1.slots; omega⟩ (fun H hW hS => ?_)
  refine lv_istore (lv' := [(6, .int (r)), (5, .int (code)), (4, .int (nI i)), (3, .ref (ou)), (2, .ref (h)), (1, .ref (AD 0)), (0, .ref (b))]) hx hb dL_law_259 hl (by decide) rfl (fun ls hl => ?_)
  refine lv_aload_n hx hb dL_law_261 rfl (lv_at hl 4 rfl) ?_
  refine p_V (As := []) (rest := []) S (c_X3_thrown l g h X V2 code lc2 ec2) (cwV 0 hts gL_law_X3_thrown rfl rfl rfl (by decide +kernel) ⟨Nat.le_of_ble_eq_true rfl, Nat.le_of_ble_eq_true rfl⟩) hK (va_recv hK.1 hW.2.1 (ci := 3) (q0 := 0) rfl rfl) hW.2.1 rfl hl.1 rfl (Nat.le_of_ble_eq_true rfl) dL_law_262 ⟨by show _ ≤ room_1.cells; omega, by show _ ≤ room_1.slots; omega⟩ ?_
  refine lv_iload hx hb dL_law_265 (lv_at hl 1 rfl) ?_
  refine lv_icmp_eq (tgt := 272) hx hb dL_law_267 (by decide) (fun _ => ?_) (fun z => absurd rfl z)
  refine lv_iload hx hb dL_law_272 (lv_at hl 1 rfl) ?_
  refine lv_if_ne (tgt := 289) hx hb dL_law_274 (by decide) (fun cz => ?_) (fun cz => ?_)
  · exact W.widen (by omega) (by omega) (lv_goto (tgt := 2038) hx hb dL_law_289 (by decide) (kk _ _ _ _ _ _ _ _ _ _ I2 hW hS (lv_sub hl [2, 3, 4, 5, 6] rfl)))
  refine lv_aload_n hx hb dL_law_277 rfl (lv_at hl 3 rfl) ?_
  refine lv_iconst (v := 0) hx hb dL_law_278 (by decide +kernel) ?_
  refine lw_gets hx hb hK hW.2.2 dL_law_279 ?_
  refine lv_toJ (z := r.toInt64) (hv cz) ?_
  refine lv_iload hx hb dL_law_280 (lv_at hl 0 rfl) ?_
  refine lv_i2l (v := r.toInt64) hx hb dL_law_282 rfl ?_
  refine W.lcmp hx hb dL_law_283 ?_
  refine lv_toI (z := 0) (cmp_eq _) ?_
  refine lv_if_eq (tgt := 289) hx hb dL_law_284 (by decide) (fun _ => ?_) (fun z => absurd rfl z)
  exact W.widen (by omega) (by omega) (lv_goto (tgt := 2038) hx hb dL_law_289 (by decide) (kk _ _ _ _ _ _ _ _ _ _ I2 hW hS (lv_sub hl [2, 3, 4, 5, 6] rfl)))

set_option maxHeartbeats 4000000 in
set_option maxRecDepth 100000 in
theorem law_write {p : Program} {e : Env} {s : State} {m : MethodId} {below : List Frame} {meth : Method} {c : Code} {Q : State → Prop} (l : Launch) (hlt : l.stackTraces = false) (g : gT) {b L : Nat} {xs : Nat → Int32} {AD : Nat → Nat} {h : Nat} {X : Nat → Nat} {ou : Nat} (hx : p.tables.exec = Jvm.exec) (hb : c.code = cL_law) (hml : c.maxLocals = 9) (hts : ∀ w ∈ wsL_law, w.before #[Value.ref b] s = true) (hown : s.vm.findClass RL = some m.cls) (hK : KK g s) (hZ : ZZ s s.heap) (hX : va_X b L xs s s.heap) (hbl : b < s.heap.size) (hL : L ≤ 2048) (hD : LD g (hiA s) AD h X ou)
    {LL : Nat → ltT} {EE : Nat → evT} {LN : Nat → Nat} {lc ec : Nat} {V : Nat → Nat → Int32} {th : Int32} {v : Int64} {H : Heap} {cells slots i : Nat} {ls : Array Slot} (I : Inv LL EE LN lc ec V) (hW : LW g AD LL EE lc ec h X V th ou v H) (hS : va_S (hiA s) s.heap H []) (hi : i + 4 ≤ L) (hcl : cells + 36 ≤ room_1.cells) (hsl : slots + 264 ≤ room_1.slots) (hl : lv_has ls 9 [(4, .int (nI i)), (3, .ref ou), (2, .ref h), (1, .ref (AD 0)), (0, .ref b)])
    (kk : ∀ (LL : Nat → ltT) (EE : Nat → evT) (LN : Nat → Nat) (lc ec : Nat) (V : Nat → Nat → Int32) (th : Int32) (v : Int64) (H : Heap) (ls : Array Slot), Inv LL EE LN lc ec V → LW g AD LL EE lc ec h X V th ou v H → va_S (hiA s) s.heap H [] → lv_has ls 9 [(4, .int (nI i)), (3, .ref ou), (2, .ref h), (1, .ref (AD 0)), (0, .ref b)] → W p l e room_1 s m #[Value.ref b] below meth c H [] (cells + 36) (slots + 264) Q (F0 m 2038 ls [])) : W p l e room_1 s m #[Value.ref b] below meth c H [] cells slots Q (F0 m 292 ls []) := by
  have S : CallFix p m c cL_law 9 s #[Value.ref b] wsL_law RL := ⟨hx, hb, hml, hown, hts⟩
  obtain ⟨code, r, v2, LL2, EE2, LN2, lc2, ec2, V2, rm, hw1, ⟨r1, r2, r3, r4⟩, hw2, I2, hv⟩ := op_write l hlt g AD h X LL EE LN lc ec V th ou v I (xs (nI (i + 1)).toNatClampNeg) (xs (nI (i + 2)).toNatClampNeg)
  refine lv_aload_n hx hb dL_law_292 rfl (lv_at hl 3 rfl) ?_
  refine lv_aload_n hx hb dL_law_293 rfl (lv_at hl 4 rfl) ?_
  refine lv_iload hx hb dL_law_294 (lv_at hl 0 rfl) ?_
  refine lv_iconst (v := nI 1) hx hb dL_law_296 (by decide +kernel) ?_
  refine lv_iadd hx hb dL_law_297 ?_
  refine lv_toI (z := nI (i + 1)) (nI_add _ _) ?_
  refine va_sld hx hb hX hbl (Nat.not_le.mpr hbl) hS (vp_in_nI (by omega) (by omega)) dL_law_298 ?_
  refine lv_aload_n hx hb dL_law_299 rfl (lv_at hl 4 rfl) ?_
  refine lv_iload hx hb dL_law_300 (lv_at hl 0 rfl) ?_
  refine lv_iconst (v := nI 2) hx hb dL_law_302 (by decide +kernel) ?_
  refine lv_iadd hx hb dL_law_303 ?_
  refine lv_toI (z := nI (i + 2)) (nI_add _ _) ?_
  refine va_sld hx hb hX hbl (Nat.not_le.mpr hbl) hS (vp_in_nI (by omega) (by omega)) dL_law_304 ?_
  refine lv_aload_n hx hb dL_law_305 rfl (lv_at hl 1 rfl) ?_
  refine lw_W (h := h) (X := X) (As := [.ref (AD 0), .int (xs (nI (i + 1)).toNatClampNeg), .int (xs (nI (i + 2)).toNatClampNeg), .ref (ou)]) (rest := []) S hw1 (vx_cwSW 4 hts gL_law_L_write rfl rfl rfl (by decide +kernel) ⟨Nat.le_of_ble_eq_true rfl, Nat.le_of_ble_eq_true rfl⟩) hK hZ hD hW hS rfl hl.1 rfl (Nat.le_of_ble_eq_true rfl) dL_law_306 ⟨by show _ ≤ room_1.cells; omega, by show _ ≤ room_1.slots; omega⟩ (fun H hP hPm hO hS => ?_)
  refine lv_istore (lv' := [(5, .int (code)), (4, .int (nI i)), (3, .ref (ou)), (2, .ref (h)), (1, .ref (AD 0)), (0, .ref (b))]) hx hb dL_law_309 hl (by decide) rfl (fun ls hl => ?_)
  refine lv_aload_n hx hb dL_law_311 rfl (lv_at hl 3 rfl) ?_
  refine lv_aload_n hx hb dL_law_312 rfl (lv_at hl 5 rfl) ?_
  refine lv_iload hx hb dL_law_313 (lv_at hl 1 rfl) ?_
  refine lv_iconst (v := nI 1) hx hb dL_law_315 (by decide +kernel) ?_
  refine lv_iadd hx hb dL_law_316 ?_
  refine lv_toI (z := nI (i + 1)) (nI_add _ _) ?_
  refine va_sld hx hb hX hbl (Nat.not_le.mpr hbl) hS (vp_in_nI (by omega) (by omega)) dL_law_317 ?_
  refine lv_aload_n hx hb dL_law_318 rfl (lv_at hl 5 rfl) ?_
  refine lv_iload hx hb dL_law_319 (lv_at hl 1 rfl) ?_
  refine lv_iconst (v := nI 2) hx hb dL_law_321 (by decide +kernel) ?_
  refine lv_iadd hx hb dL_law_322 ?_
  refine lv_toI (z := nI (i + 2)) (nI_add _ _) ?_
  refine va_sld hx hb hX hbl (Nat.not_le.mpr hbl) hS (vp_in_nI (by omega) (by omega)) dL_law_323 ?_
  refine lw_M (As := [.int (xs (nI (i + 1)).toNatClampNeg), .int (xs (nI (i + 2)).toNatClampNeg)]) (rest := []) S hw2 (cwV 2 hts gL_law_X3_write rfl r2 r3 (by decide +kernel) ⟨by show rm.frames + 1 ≤ 12; omega, by show 8 + (3 + 11) + rm.locals ≤ 436; omega⟩) hK (va_recv hK.1 hPm (ci := 3) (q0 := 0) rfl rfl) hD hP hPm hO hS rfl hl.1 rfl (Nat.le_of_ble_eq_true rfl) dL_law_324 ⟨by show _ ≤ room_1.cells; omega, by show _ ≤ room_1.slots; omega⟩ (fun H hW hS => ?_)
  refine lv_istore (lv' := [(6, .int (r)), (5, .int (code)), (4, .int (nI i)), (3, .ref (ou)), (2, .ref (h)), (1, .ref (AD 0)), (0, .ref (b))]) hx hb dL_law_327 hl (by decide) rfl (fun ls hl => ?_)
  refine lv_aload_n hx hb dL_law_329 rfl (lv_at hl 4 rfl) ?_
  refine p_V (As := []) (rest := []) S (c_X3_thrown l g h X V2 code lc2 ec2) (cwV 0 hts gL_law_X3_thrown rfl rfl rfl (by decide +kernel) ⟨Nat.le_of_ble_eq_true rfl, Nat.le_of_ble_eq_true rfl⟩) hK (va_recv hK.1 hW.2.1 (ci := 3) (q0 := 0) rfl rfl) hW.2.1 rfl hl.1 rfl (Nat.le_of_ble_eq_true rfl) dL_law_330 ⟨by show _ ≤ room_1.cells; omega, by show _ ≤ room_1.slots; omega⟩ ?_
  refine lv_iload hx hb dL_law_333 (lv_at hl 1 rfl) ?_
  refine lv_icmp_eq (tgt := 340) hx hb dL_law_335 (by decide) (fun _ => ?_) (fun z => absurd rfl z)
  refine lv_iload hx hb dL_law_340 (lv_at hl 1 rfl) ?_
  refine lv_if_ne (tgt := 357) hx hb dL_law_342 (by decide) (fun cz => ?_) (fun cz => ?_)
  · exact W.widen (by omega) (by omega) (lv_goto (tgt := 2038) hx hb dL_law_357 (by decide) (kk _ _ _ _ _ _ _ _ _ _ I2 hW hS (lv_sub hl [2, 3, 4, 5, 6] rfl)))
  refine lv_aload_n hx hb dL_law_345 rfl (lv_at hl 3 rfl) ?_
  refine lv_iconst (v := 0) hx hb dL_law_346 (by decide +kernel) ?_
  refine lw_gets hx hb hK hW.2.2 dL_law_347 ?_
  refine lv_toJ (z := r.toInt64) (hv cz) ?_
  refine lv_iload hx hb dL_law_348 (lv_at hl 0 rfl) ?_
  refine lv_i2l (v := r.toInt64) hx hb dL_law_350 rfl ?_
  refine W.lcmp hx hb dL_law_351 ?_
  refine lv_toI (z := 0) (cmp_eq _) ?_
  refine lv_if_eq (tgt := 357) hx hb dL_law_352 (by decide) (fun _ => ?_) (fun z => absurd rfl z)
  exact W.widen (by omega) (by omega) (lv_goto (tgt := 2038) hx hb dL_law_357 (by decide) (kk _ _ _ _ _ _ _ _ _ _ I2 hW hS (lv_sub hl [2, 3, 4, 5, 6] rfl)))

set_option maxHeartbeats 4000000 in
set_option maxRecDepth 100000 in
theorem law_erase {p : Program} {e : Env} {s : State} {m : MethodId} {below : List Frame} {meth : Method} {c : Code} {Q : State → Prop} (l : Launch) (hlt : l.stackTraces = false) (g : gT) {b L : Nat} {xs : Nat → Int32} {AD : Nat → Nat} {h : Nat} {X : Nat → Nat} {ou : Nat} (hx : p.tables.exec = Jvm.exec) (hb : c.code = cL_law) (hml : c.maxLocals = 9) (hts : ∀ w ∈ wsL_law, w.before #[Value.ref b] s = true) (hown : s.vm.findClass RL = some m.cls) (hK : KK g s) (hZ : ZZ s s.heap) (hX : va_X b L xs s s.heap) (hbl : b < s.heap.size) (hL : L ≤ 2048) (hD : LD g (hiA s) AD h X ou)
    {LL : Nat → ltT} {EE : Nat → evT} {LN : Nat → Nat} {lc ec : Nat} {V : Nat → Nat → Int32} {th : Int32} {v : Int64} {H : Heap} {cells slots i : Nat} {ls : Array Slot} (I : Inv LL EE LN lc ec V) (hW : LW g AD LL EE lc ec h X V th ou v H) (hS : va_S (hiA s) s.heap H []) (hi : i + 4 ≤ L) (hcl : cells + 36 ≤ room_1.cells) (hsl : slots + 264 ≤ room_1.slots) (hl : lv_has ls 9 [(4, .int (nI i)), (3, .ref ou), (2, .ref h), (1, .ref (AD 0)), (0, .ref b)])
    (kk : ∀ (LL : Nat → ltT) (EE : Nat → evT) (LN : Nat → Nat) (lc ec : Nat) (V : Nat → Nat → Int32) (th : Int32) (v : Int64) (H : Heap) (ls : Array Slot), Inv LL EE LN lc ec V → LW g AD LL EE lc ec h X V th ou v H → va_S (hiA s) s.heap H [] → lv_has ls 9 [(4, .int (nI i)), (3, .ref ou), (2, .ref h), (1, .ref (AD 0)), (0, .ref b)] → W p l e room_1 s m #[Value.ref b] below meth c H [] (cells + 36) (slots + 264) Q (F0 m 2038 ls [])) : W p l e room_1 s m #[Value.ref b] below meth c H [] cells slots Q (F0 m 360 ls []) := by
  have S : CallFix p m c cL_law 9 s #[Value.ref b] wsL_law RL := ⟨hx, hb, hml, hown, hts⟩
  obtain ⟨code, r, v2, LL2, EE2, LN2, lc2, ec2, V2, rm, hw1, ⟨r1, r2, r3, r4⟩, hw2, I2, hv⟩ := op_erase l hlt g AD h X LL EE LN lc ec V th ou v I (xs (nI (i + 1)).toNatClampNeg)
  refine lv_aload_n hx hb dL_law_360 rfl (lv_at hl 3 rfl) ?_
  refine lv_aload_n hx hb dL_law_361 rfl (lv_at hl 4 rfl) ?_
  refine lv_iload hx hb dL_law_362 (lv_at hl 0 rfl) ?_
  refine lv_iconst (v := nI 1) hx hb dL_law_364 (by decide +kernel) ?_
  refine lv_iadd hx hb dL_law_365 ?_
  refine lv_toI (z := nI (i + 1)) (nI_add _ _) ?_
  refine va_sld hx hb hX hbl (Nat.not_le.mpr hbl) hS (vp_in_nI (by omega) (by omega)) dL_law_366 ?_
  refine lv_aload_n hx hb dL_law_367 rfl (lv_at hl 1 rfl) ?_
  refine lw_W (h := h) (X := X) (As := [.ref (AD 0), .int (xs (nI (i + 1)).toNatClampNeg), .ref (ou)]) (rest := []) S hw1 (vx_cwSW 3 hts gL_law_L_erase rfl rfl rfl (by decide +kernel) ⟨Nat.le_of_ble_eq_true rfl, Nat.le_of_ble_eq_true rfl⟩) hK hZ hD hW hS rfl hl.1 rfl (Nat.le_of_ble_eq_true rfl) dL_law_368 ⟨by show _ ≤ room_1.cells; omega, by show _ ≤ room_1.slots; omega⟩ (fun H hP hPm hO hS => ?_)
  refine lv_istore (lv' := [(5, .int (code)), (4, .int (nI i)), (3, .ref (ou)), (2, .ref (h)), (1, .ref (AD 0)), (0, .ref (b))]) hx hb dL_law_371 hl (by decide) rfl (fun ls hl => ?_)
  refine lv_aload_n hx hb dL_law_373 rfl (lv_at hl 3 rfl) ?_
  refine lv_aload_n hx hb dL_law_374 rfl (lv_at hl 5 rfl) ?_
  refine lv_iload hx hb dL_law_375 (lv_at hl 1 rfl) ?_
  refine lv_iconst (v := nI 1) hx hb dL_law_377 (by decide +kernel) ?_
  refine lv_iadd hx hb dL_law_378 ?_
  refine lv_toI (z := nI (i + 1)) (nI_add _ _) ?_
  refine va_sld hx hb hX hbl (Nat.not_le.mpr hbl) hS (vp_in_nI (by omega) (by omega)) dL_law_379 ?_
  refine lw_M (As := [.int (xs (nI (i + 1)).toNatClampNeg)]) (rest := []) S hw2 (cwV 1 hts gL_law_X3_erase rfl r2 r3 (by decide +kernel) ⟨by show rm.frames + 1 ≤ 12; omega, by show 8 + (2 + 11) + rm.locals ≤ 436; omega⟩) hK (va_recv hK.1 hPm (ci := 3) (q0 := 0) rfl rfl) hD hP hPm hO hS rfl hl.1 rfl (Nat.le_of_ble_eq_true rfl) dL_law_380 ⟨by show _ ≤ room_1.cells; omega, by show _ ≤ room_1.slots; omega⟩ (fun H hW hS => ?_)
  refine lv_istore (lv' := [(6, .int (r)), (5, .int (code)), (4, .int (nI i)), (3, .ref (ou)), (2, .ref (h)), (1, .ref (AD 0)), (0, .ref (b))]) hx hb dL_law_383 hl (by decide) rfl (fun ls hl => ?_)
  refine lv_aload_n hx hb dL_law_385 rfl (lv_at hl 4 rfl) ?_
  refine p_V (As := []) (rest := []) S (c_X3_thrown l g h X V2 code lc2 ec2) (cwV 0 hts gL_law_X3_thrown rfl rfl rfl (by decide +kernel) ⟨Nat.le_of_ble_eq_true rfl, Nat.le_of_ble_eq_true rfl⟩) hK (va_recv hK.1 hW.2.1 (ci := 3) (q0 := 0) rfl rfl) hW.2.1 rfl hl.1 rfl (Nat.le_of_ble_eq_true rfl) dL_law_386 ⟨by show _ ≤ room_1.cells; omega, by show _ ≤ room_1.slots; omega⟩ ?_
  refine lv_iload hx hb dL_law_389 (lv_at hl 1 rfl) ?_
  refine lv_icmp_eq (tgt := 396) hx hb dL_law_391 (by decide) (fun _ => ?_) (fun z => absurd rfl z)
  refine lv_iload hx hb dL_law_396 (lv_at hl 1 rfl) ?_
  refine lv_if_ne (tgt := 413) hx hb dL_law_398 (by decide) (fun cz => ?_) (fun cz => ?_)
  · exact W.widen (by omega) (by omega) (lv_goto (tgt := 2038) hx hb dL_law_413 (by decide) (kk _ _ _ _ _ _ _ _ _ _ I2 hW hS (lv_sub hl [2, 3, 4, 5, 6] rfl)))
  refine lv_aload_n hx hb dL_law_401 rfl (lv_at hl 3 rfl) ?_
  refine lv_iconst (v := 0) hx hb dL_law_402 (by decide +kernel) ?_
  refine lw_gets hx hb hK hW.2.2 dL_law_403 ?_
  refine lv_toJ (z := r.toInt64) (hv cz) ?_
  refine lv_iload hx hb dL_law_404 (lv_at hl 0 rfl) ?_
  refine lv_i2l (v := r.toInt64) hx hb dL_law_406 rfl ?_
  refine W.lcmp hx hb dL_law_407 ?_
  refine lv_toI (z := 0) (cmp_eq _) ?_
  refine lv_if_eq (tgt := 413) hx hb dL_law_408 (by decide) (fun _ => ?_) (fun z => absurd rfl z)
  exact W.widen (by omega) (by omega) (lv_goto (tgt := 2038) hx hb dL_law_413 (by decide) (kk _ _ _ _ _ _ _ _ _ _ I2 hW hS (lv_sub hl [2, 3, 4, 5, 6] rfl)))

set_option maxHeartbeats 4000000 in
set_option maxRecDepth 100000 in
theorem law_forge {p : Program} {e : Env} {s : State} {m : MethodId} {below : List Frame} {meth : Method} {c : Code} {Q : State → Prop} (l : Launch) (hlt : l.stackTraces = false) (g : gT) {b L : Nat} {xs : Nat → Int32} {AD : Nat → Nat} {h : Nat} {X : Nat → Nat} {ou : Nat} (hx : p.tables.exec = Jvm.exec) (hb : c.code = cL_law) (hml : c.maxLocals = 9) (hts : ∀ w ∈ wsL_law, w.before #[Value.ref b] s = true) (hown : s.vm.findClass RL = some m.cls) (hK : KK g s) (hZ : ZZ s s.heap) (hX : va_X b L xs s s.heap) (hbl : b < s.heap.size) (hL : L ≤ 2048) (hD : LD g (hiA s) AD h X ou)
    {LL : Nat → ltT} {EE : Nat → evT} {LN : Nat → Nat} {lc ec : Nat} {V : Nat → Nat → Int32} {th : Int32} {v : Int64} {H : Heap} {cells slots i : Nat} {ls : Array Slot} (I : Inv LL EE LN lc ec V) (hW : LW g AD LL EE lc ec h X V th ou v H) (hS : va_S (hiA s) s.heap H []) (hi : i + 4 ≤ L) (hcl : cells + 36 ≤ room_1.cells) (hsl : slots + 264 ≤ room_1.slots) (hl : lv_has ls 9 [(4, .int (nI i)), (3, .ref ou), (2, .ref h), (1, .ref (AD 0)), (0, .ref b)])
    (kk : ∀ (LL : Nat → ltT) (EE : Nat → evT) (LN : Nat → Nat) (lc ec : Nat) (V : Nat → Nat → Int32) (th : Int32) (v : Int64) (H : Heap) (ls : Array Slot), Inv LL EE LN lc ec V → LW g AD LL EE lc ec h X V th ou v H → va_S (hiA s) s.heap H [] → lv_has ls 9 [(4, .int (nI i)), (3, .ref ou), (2, .ref h), (1, .ref (AD 0)), (0, .ref b)] → W p l e room_1 s m #[Value.ref b] below meth c H [] (cells + 36) (slots + 264) Q (F0 m 2038 ls [])) : W p l e room_1 s m #[Value.ref b] below meth c H [] cells slots Q (F0 m 416 ls []) := by
  have S : CallFix p m c cL_law 9 s #[Value.ref b] wsL_law RL := ⟨hx, hb, hml, hown, hts⟩
  obtain ⟨code, r, v2, LL2, EE2, LN2, lc2, ec2, V2, rm, hw1, ⟨r1, r2, r3, r4⟩, hw2, I2, hv⟩ := op_forge l hlt g AD h X LL EE LN lc ec V th ou v I (xs (nI (i + 1)).toNatClampNeg) (xs (nI (i + 2)).toNatClampNeg)
  refine lv_aload_n hx hb dL_law_416 rfl (lv_at hl 3 rfl) ?_
  refine lv_aload_n hx hb dL_law_417 rfl (lv_at hl 4 rfl) ?_
  refine lv_iload hx hb dL_law_418 (lv_at hl 0 rfl) ?_
  refine lv_iconst (v := nI 1) hx hb dL_law_420 (by decide +kernel) ?_
  refine lv_iadd hx hb dL_law_421 ?_
  refine lv_toI (z := nI (i + 1)) (nI_add _ _) ?_
  refine va_sld hx hb hX hbl (Nat.not_le.mpr hbl) hS (vp_in_nI (by omega) (by omega)) dL_law_422 ?_
  refine lv_aload_n hx hb dL_law_423 rfl (lv_at hl 4 rfl) ?_
  refine lv_iload hx hb dL_law_424 (lv_at hl 0 rfl) ?_
  refine lv_iconst (v := nI 2) hx hb dL_law_426 (by decide +kernel) ?_
  refine lv_iadd hx hb dL_law_427 ?_
  refine lv_toI (z := nI (i + 2)) (nI_add _ _) ?_
  refine va_sld hx hb hX hbl (Nat.not_le.mpr hbl) hS (vp_in_nI (by omega) (by omega)) dL_law_428 ?_
  refine lv_aload_n hx hb dL_law_429 rfl (lv_at hl 1 rfl) ?_
  refine lw_W (h := h) (X := X) (As := [.ref (AD 0), .int (xs (nI (i + 1)).toNatClampNeg), .int (xs (nI (i + 2)).toNatClampNeg), .ref (ou)]) (rest := []) S hw1 (vx_cwSW 4 hts gL_law_L_forge rfl rfl rfl (by decide +kernel) ⟨Nat.le_of_ble_eq_true rfl, Nat.le_of_ble_eq_true rfl⟩) hK hZ hD hW hS rfl hl.1 rfl (Nat.le_of_ble_eq_true rfl) dL_law_430 ⟨by show _ ≤ room_1.cells; omega, by show _ ≤ room_1.slots; omega⟩ (fun H hP hPm hO hS => ?_)
  refine lv_istore (lv' := [(5, .int (code)), (4, .int (nI i)), (3, .ref (ou)), (2, .ref (h)), (1, .ref (AD 0)), (0, .ref (b))]) hx hb dL_law_433 hl (by decide) rfl (fun ls hl => ?_)
  refine lv_aload_n hx hb dL_law_435 rfl (lv_at hl 3 rfl) ?_
  refine lv_aload_n hx hb dL_law_436 rfl (lv_at hl 5 rfl) ?_
  refine lv_iload hx hb dL_law_437 (lv_at hl 1 rfl) ?_
  refine lv_iconst (v := nI 1) hx hb dL_law_439 (by decide +kernel) ?_
  refine lv_iadd hx hb dL_law_440 ?_
  refine lv_toI (z := nI (i + 1)) (nI_add _ _) ?_
  refine va_sld hx hb hX hbl (Nat.not_le.mpr hbl) hS (vp_in_nI (by omega) (by omega)) dL_law_441 ?_
  refine lv_aload_n hx hb dL_law_442 rfl (lv_at hl 5 rfl) ?_
  refine lv_iload hx hb dL_law_443 (lv_at hl 1 rfl) ?_
  refine lv_iconst (v := nI 2) hx hb dL_law_445 (by decide +kernel) ?_
  refine lv_iadd hx hb dL_law_446 ?_
  refine lv_toI (z := nI (i + 2)) (nI_add _ _) ?_
  refine va_sld hx hb hX hbl (Nat.not_le.mpr hbl) hS (vp_in_nI (by omega) (by omega)) dL_law_447 ?_
  refine lw_M (As := [.int (xs (nI (i + 1)).toNatClampNeg), .int (xs (nI (i + 2)).toNatClampNeg)]) (rest := []) S hw2 (cwV 2 hts gL_law_X3_forge rfl r2 r3 (by decide +kernel) ⟨by show rm.frames + 1 ≤ 12; omega, by show 8 + (3 + 11) + rm.locals ≤ 436; omega⟩) hK (va_recv hK.1 hPm (ci := 3) (q0 := 0) rfl rfl) hD hP hPm hO hS rfl hl.1 rfl (Nat.le_of_ble_eq_true rfl) dL_law_448 ⟨by show _ ≤ room_1.cells; omega, by show _ ≤ room_1.slots; omega⟩ (fun H hW hS => ?_)
  refine lv_istore (lv' := [(6, .int (r)), (5, .int (code)), (4, .int (nI i)), (3, .ref (ou)), (2, .ref (h)), (1, .ref (AD 0)), (0, .ref (b))]) hx hb dL_law_451 hl (by decide) rfl (fun ls hl => ?_)
  refine lv_aload_n hx hb dL_law_453 rfl (lv_at hl 4 rfl) ?_
  refine p_V (As := []) (rest := []) S (c_X3_thrown l g h X V2 code lc2 ec2) (cwV 0 hts gL_law_X3_thrown rfl rfl rfl (by decide +kernel) ⟨Nat.le_of_ble_eq_true rfl, Nat.le_of_ble_eq_true rfl⟩) hK (va_recv hK.1 hW.2.1 (ci := 3) (q0 := 0) rfl rfl) hW.2.1 rfl hl.1 rfl (Nat.le_of_ble_eq_true rfl) dL_law_454 ⟨by show _ ≤ room_1.cells; omega, by show _ ≤ room_1.slots; omega⟩ ?_
  refine lv_iload hx hb dL_law_457 (lv_at hl 1 rfl) ?_
  refine lv_icmp_eq (tgt := 464) hx hb dL_law_459 (by decide) (fun _ => ?_) (fun z => absurd rfl z)
  refine lv_iload hx hb dL_law_464 (lv_at hl 1 rfl) ?_
  refine lv_if_ne (tgt := 481) hx hb dL_law_466 (by decide) (fun cz => ?_) (fun cz => ?_)
  · exact W.widen (by omega) (by omega) (lv_goto (tgt := 2038) hx hb dL_law_481 (by decide) (kk _ _ _ _ _ _ _ _ _ _ I2 hW hS (lv_sub hl [2, 3, 4, 5, 6] rfl)))
  refine lv_aload_n hx hb dL_law_469 rfl (lv_at hl 3 rfl) ?_
  refine lv_iconst (v := 0) hx hb dL_law_470 (by decide +kernel) ?_
  refine lw_gets hx hb hK hW.2.2 dL_law_471 ?_
  refine lv_toJ (z := r.toInt64) (hv cz) ?_
  refine lv_iload hx hb dL_law_472 (lv_at hl 0 rfl) ?_
  refine lv_i2l (v := r.toInt64) hx hb dL_law_474 rfl ?_
  refine W.lcmp hx hb dL_law_475 ?_
  refine lv_toI (z := 0) (cmp_eq _) ?_
  refine lv_if_eq (tgt := 481) hx hb dL_law_476 (by decide) (fun _ => ?_) (fun z => absurd rfl z)
  exact W.widen (by omega) (by omega) (lv_goto (tgt := 2038) hx hb dL_law_481 (by decide) (kk _ _ _ _ _ _ _ _ _ _ I2 hW hS (lv_sub hl [2, 3, 4, 5, 6] rfl)))

set_option maxHeartbeats 4000000 in
set_option maxRecDepth 100000 in
theorem law_tear {p : Program} {e : Env} {s : State} {m : MethodId} {below : List Frame} {meth : Method} {c : Code} {Q : State → Prop} (l : Launch) (hlt : l.stackTraces = false) (g : gT) {b L : Nat} {xs : Nat → Int32} {AD : Nat → Nat} {h : Nat} {X : Nat → Nat} {ou : Nat} (hx : p.tables.exec = Jvm.exec) (hb : c.code = cL_law) (hml : c.maxLocals = 9) (hts : ∀ w ∈ wsL_law, w.before #[Value.ref b] s = true) (hown : s.vm.findClass RL = some m.cls) (hK : KK g s) (hZ : ZZ s s.heap) (hX : va_X b L xs s s.heap) (hbl : b < s.heap.size) (hL : L ≤ 2048) (hD : LD g (hiA s) AD h X ou)
    {LL : Nat → ltT} {EE : Nat → evT} {LN : Nat → Nat} {lc ec : Nat} {V : Nat → Nat → Int32} {th : Int32} {v : Int64} {H : Heap} {cells slots i : Nat} {ls : Array Slot} (I : Inv LL EE LN lc ec V) (hW : LW g AD LL EE lc ec h X V th ou v H) (hS : va_S (hiA s) s.heap H []) (hi : i + 4 ≤ L) (hcl : cells + 36 ≤ room_1.cells) (hsl : slots + 264 ≤ room_1.slots) (hl : lv_has ls 9 [(4, .int (nI i)), (3, .ref ou), (2, .ref h), (1, .ref (AD 0)), (0, .ref b)])
    (kk : ∀ (LL : Nat → ltT) (EE : Nat → evT) (LN : Nat → Nat) (lc ec : Nat) (V : Nat → Nat → Int32) (th : Int32) (v : Int64) (H : Heap) (ls : Array Slot), Inv LL EE LN lc ec V → LW g AD LL EE lc ec h X V th ou v H → va_S (hiA s) s.heap H [] → lv_has ls 9 [(4, .int (nI i)), (3, .ref ou), (2, .ref h), (1, .ref (AD 0)), (0, .ref b)] → W p l e room_1 s m #[Value.ref b] below meth c H [] (cells + 36) (slots + 264) Q (F0 m 2038 ls [])) : W p l e room_1 s m #[Value.ref b] below meth c H [] cells slots Q (F0 m 484 ls []) := by
  have S : CallFix p m c cL_law 9 s #[Value.ref b] wsL_law RL := ⟨hx, hb, hml, hown, hts⟩
  obtain ⟨code, r, v2, LL2, EE2, LN2, lc2, ec2, V2, rm, hw1, ⟨r1, r2, r3, r4⟩, hw2, I2, hv⟩ := op_tear l hlt g AD h X LL EE LN lc ec V th ou v I (xs (nI (i + 1)).toNatClampNeg) (xs (nI (i + 2)).toNatClampNeg)
  refine lv_aload_n hx hb dL_law_484 rfl (lv_at hl 3 rfl) ?_
  refine lv_aload_n hx hb dL_law_485 rfl (lv_at hl 4 rfl) ?_
  refine lv_iload hx hb dL_law_486 (lv_at hl 0 rfl) ?_
  refine lv_iconst (v := nI 1) hx hb dL_law_488 (by decide +kernel) ?_
  refine lv_iadd hx hb dL_law_489 ?_
  refine lv_toI (z := nI (i + 1)) (nI_add _ _) ?_
  refine va_sld hx hb hX hbl (Nat.not_le.mpr hbl) hS (vp_in_nI (by omega) (by omega)) dL_law_490 ?_
  refine lv_aload_n hx hb dL_law_491 rfl (lv_at hl 4 rfl) ?_
  refine lv_iload hx hb dL_law_492 (lv_at hl 0 rfl) ?_
  refine lv_iconst (v := nI 2) hx hb dL_law_494 (by decide +kernel) ?_
  refine lv_iadd hx hb dL_law_495 ?_
  refine lv_toI (z := nI (i + 2)) (nI_add _ _) ?_
  refine va_sld hx hb hX hbl (Nat.not_le.mpr hbl) hS (vp_in_nI (by omega) (by omega)) dL_law_496 ?_
  refine lv_aload_n hx hb dL_law_497 rfl (lv_at hl 1 rfl) ?_
  refine lw_W (h := h) (X := X) (As := [.ref (AD 0), .int (xs (nI (i + 1)).toNatClampNeg), .int (xs (nI (i + 2)).toNatClampNeg), .ref (ou)]) (rest := []) S hw1 (vx_cwSW 4 hts gL_law_L_tear rfl rfl rfl (by decide +kernel) ⟨Nat.le_of_ble_eq_true rfl, Nat.le_of_ble_eq_true rfl⟩) hK hZ hD hW hS rfl hl.1 rfl (Nat.le_of_ble_eq_true rfl) dL_law_498 ⟨by show _ ≤ room_1.cells; omega, by show _ ≤ room_1.slots; omega⟩ (fun H hP hPm hO hS => ?_)
  refine lv_istore (lv' := [(5, .int (code)), (4, .int (nI i)), (3, .ref (ou)), (2, .ref (h)), (1, .ref (AD 0)), (0, .ref (b))]) hx hb dL_law_501 hl (by decide) rfl (fun ls hl => ?_)
  refine lv_aload_n hx hb dL_law_503 rfl (lv_at hl 3 rfl) ?_
  refine lv_aload_n hx hb dL_law_504 rfl (lv_at hl 5 rfl) ?_
  refine lv_iload hx hb dL_law_505 (lv_at hl 1 rfl) ?_
  refine lv_iconst (v := nI 1) hx hb dL_law_507 (by decide +kernel) ?_
  refine lv_iadd hx hb dL_law_508 ?_
  refine lv_toI (z := nI (i + 1)) (nI_add _ _) ?_
  refine va_sld hx hb hX hbl (Nat.not_le.mpr hbl) hS (vp_in_nI (by omega) (by omega)) dL_law_509 ?_
  refine lv_aload_n hx hb dL_law_510 rfl (lv_at hl 5 rfl) ?_
  refine lv_iload hx hb dL_law_511 (lv_at hl 1 rfl) ?_
  refine lv_iconst (v := nI 2) hx hb dL_law_513 (by decide +kernel) ?_
  refine lv_iadd hx hb dL_law_514 ?_
  refine lv_toI (z := nI (i + 2)) (nI_add _ _) ?_
  refine va_sld hx hb hX hbl (Nat.not_le.mpr hbl) hS (vp_in_nI (by omega) (by omega)) dL_law_515 ?_
  refine lw_M (As := [.int (xs (nI (i + 1)).toNatClampNeg), .int (xs (nI (i + 2)).toNatClampNeg)]) (rest := []) S hw2 (cwV 2 hts gL_law_X3_tear rfl r2 r3 (by decide +kernel) ⟨by show rm.frames + 1 ≤ 12; omega, by show 8 + (3 + 11) + rm.locals ≤ 436; omega⟩) hK (va_recv hK.1 hPm (ci := 3) (q0 := 0) rfl rfl) hD hP hPm hO hS rfl hl.1 rfl (Nat.le_of_ble_eq_true rfl) dL_law_516 ⟨by show _ ≤ room_1.cells; omega, by show _ ≤ room_1.slots; omega⟩ (fun H hW hS => ?_)
  refine lv_istore (lv' := [(6, .int (r)), (5, .int (code)), (4, .int (nI i)), (3, .ref (ou)), (2, .ref (h)), (1, .ref (AD 0)), (0, .ref (b))]) hx hb dL_law_519 hl (by decide) rfl (fun ls hl => ?_)
  refine lv_aload_n hx hb dL_law_521 rfl (lv_at hl 4 rfl) ?_
  refine p_V (As := []) (rest := []) S (c_X3_thrown l g h X V2 code lc2 ec2) (cwV 0 hts gL_law_X3_thrown rfl rfl rfl (by decide +kernel) ⟨Nat.le_of_ble_eq_true rfl, Nat.le_of_ble_eq_true rfl⟩) hK (va_recv hK.1 hW.2.1 (ci := 3) (q0 := 0) rfl rfl) hW.2.1 rfl hl.1 rfl (Nat.le_of_ble_eq_true rfl) dL_law_522 ⟨by show _ ≤ room_1.cells; omega, by show _ ≤ room_1.slots; omega⟩ ?_
  refine lv_iload hx hb dL_law_525 (lv_at hl 1 rfl) ?_
  refine lv_icmp_eq (tgt := 532) hx hb dL_law_527 (by decide) (fun _ => ?_) (fun z => absurd rfl z)
  refine lv_iload hx hb dL_law_532 (lv_at hl 1 rfl) ?_
  refine lv_if_ne (tgt := 549) hx hb dL_law_534 (by decide) (fun cz => ?_) (fun cz => ?_)
  · exact W.widen (by omega) (by omega) (lv_goto (tgt := 2038) hx hb dL_law_549 (by decide) (kk _ _ _ _ _ _ _ _ _ _ I2 hW hS (lv_sub hl [2, 3, 4, 5, 6] rfl)))
  refine lv_aload_n hx hb dL_law_537 rfl (lv_at hl 3 rfl) ?_
  refine lv_iconst (v := 0) hx hb dL_law_538 (by decide +kernel) ?_
  refine lw_gets hx hb hK hW.2.2 dL_law_539 ?_
  refine lv_toJ (z := r.toInt64) (hv cz) ?_
  refine lv_iload hx hb dL_law_540 (lv_at hl 0 rfl) ?_
  refine lv_i2l (v := r.toInt64) hx hb dL_law_542 rfl ?_
  refine W.lcmp hx hb dL_law_543 ?_
  refine lv_toI (z := 0) (cmp_eq _) ?_
  refine lv_if_eq (tgt := 549) hx hb dL_law_544 (by decide) (fun _ => ?_) (fun z => absurd rfl z)
  exact W.widen (by omega) (by omega) (lv_goto (tgt := 2038) hx hb dL_law_549 (by decide) (kk _ _ _ _ _ _ _ _ _ _ I2 hW hS (lv_sub hl [2, 3, 4, 5, 6] rfl)))

set_option maxHeartbeats 4000000 in
set_option maxRecDepth 100000 in
theorem law_mend {p : Program} {e : Env} {s : State} {m : MethodId} {below : List Frame} {meth : Method} {c : Code} {Q : State → Prop} (l : Launch) (hlt : l.stackTraces = false) (g : gT) {b L : Nat} {xs : Nat → Int32} {AD : Nat → Nat} {h : Nat} {X : Nat → Nat} {ou : Nat} (hx : p.tables.exec = Jvm.exec) (hb : c.code = cL_law) (hml : c.maxLocals = 9) (hts : ∀ w ∈ wsL_law, w.before #[Value.ref b] s = true) (hown : s.vm.findClass RL = some m.cls) (hK : KK g s) (hZ : ZZ s s.heap) (hX : va_X b L xs s s.heap) (hbl : b < s.heap.size) (hL : L ≤ 2048) (hD : LD g (hiA s) AD h X ou)
    {LL : Nat → ltT} {EE : Nat → evT} {LN : Nat → Nat} {lc ec : Nat} {V : Nat → Nat → Int32} {th : Int32} {v : Int64} {H : Heap} {cells slots i : Nat} {ls : Array Slot} (I : Inv LL EE LN lc ec V) (hW : LW g AD LL EE lc ec h X V th ou v H) (hS : va_S (hiA s) s.heap H []) (hi : i + 4 ≤ L) (hcl : cells + 36 ≤ room_1.cells) (hsl : slots + 264 ≤ room_1.slots) (hl : lv_has ls 9 [(4, .int (nI i)), (3, .ref ou), (2, .ref h), (1, .ref (AD 0)), (0, .ref b)])
    (kk : ∀ (LL : Nat → ltT) (EE : Nat → evT) (LN : Nat → Nat) (lc ec : Nat) (V : Nat → Nat → Int32) (th : Int32) (v : Int64) (H : Heap) (ls : Array Slot), Inv LL EE LN lc ec V → LW g AD LL EE lc ec h X V th ou v H → va_S (hiA s) s.heap H [] → lv_has ls 9 [(4, .int (nI i)), (3, .ref ou), (2, .ref h), (1, .ref (AD 0)), (0, .ref b)] → W p l e room_1 s m #[Value.ref b] below meth c H [] (cells + 36) (slots + 264) Q (F0 m 2038 ls [])) : W p l e room_1 s m #[Value.ref b] below meth c H [] cells slots Q (F0 m 552 ls []) := by
  have S : CallFix p m c cL_law 9 s #[Value.ref b] wsL_law RL := ⟨hx, hb, hml, hown, hts⟩
  obtain ⟨code, r, v2, LL2, EE2, LN2, lc2, ec2, V2, rm, hw1, ⟨r1, r2, r3, r4⟩, hw2, I2, hv⟩ := op_mend l hlt g AD h X LL EE LN lc ec V th ou v I (xs (nI (i + 1)).toNatClampNeg) (xs (nI (i + 2)).toNatClampNeg) (xs (nI (i + 3)).toNatClampNeg)
  refine lv_aload_n hx hb dL_law_552 rfl (lv_at hl 3 rfl) ?_
  refine lv_aload_n hx hb dL_law_553 rfl (lv_at hl 4 rfl) ?_
  refine lv_iload hx hb dL_law_554 (lv_at hl 0 rfl) ?_
  refine lv_iconst (v := nI 1) hx hb dL_law_556 (by decide +kernel) ?_
  refine lv_iadd hx hb dL_law_557 ?_
  refine lv_toI (z := nI (i + 1)) (nI_add _ _) ?_
  refine va_sld hx hb hX hbl (Nat.not_le.mpr hbl) hS (vp_in_nI (by omega) (by omega)) dL_law_558 ?_
  refine lv_aload_n hx hb dL_law_559 rfl (lv_at hl 4 rfl) ?_
  refine lv_iload hx hb dL_law_560 (lv_at hl 0 rfl) ?_
  refine lv_iconst (v := nI 2) hx hb dL_law_562 (by decide +kernel) ?_
  refine lv_iadd hx hb dL_law_563 ?_
  refine lv_toI (z := nI (i + 2)) (nI_add _ _) ?_
  refine va_sld hx hb hX hbl (Nat.not_le.mpr hbl) hS (vp_in_nI (by omega) (by omega)) dL_law_564 ?_
  refine lv_aload_n hx hb dL_law_565 rfl (lv_at hl 4 rfl) ?_
  refine lv_iload hx hb dL_law_566 (lv_at hl 0 rfl) ?_
  refine lv_iconst (v := nI 3) hx hb dL_law_568 (by decide +kernel) ?_
  refine lv_iadd hx hb dL_law_569 ?_
  refine lv_toI (z := nI (i + 3)) (nI_add _ _) ?_
  refine va_sld hx hb hX hbl (Nat.not_le.mpr hbl) hS (vp_in_nI (by omega) (by omega)) dL_law_570 ?_
  refine lv_aload_n hx hb dL_law_571 rfl (lv_at hl 1 rfl) ?_
  refine lw_W (h := h) (X := X) (As := [.ref (AD 0), .int (xs (nI (i + 1)).toNatClampNeg), .int (xs (nI (i + 2)).toNatClampNeg), .int (xs (nI (i + 3)).toNatClampNeg), .ref (ou)]) (rest := []) S hw1 (vx_cwSW 5 hts gL_law_L_mend rfl rfl rfl (by decide +kernel) ⟨Nat.le_of_ble_eq_true rfl, Nat.le_of_ble_eq_true rfl⟩) hK hZ hD hW hS rfl hl.1 rfl (Nat.le_of_ble_eq_true rfl) dL_law_572 ⟨by show _ ≤ room_1.cells; omega, by show _ ≤ room_1.slots; omega⟩ (fun H hP hPm hO hS => ?_)
  refine lv_istore (lv' := [(5, .int (code)), (4, .int (nI i)), (3, .ref (ou)), (2, .ref (h)), (1, .ref (AD 0)), (0, .ref (b))]) hx hb dL_law_575 hl (by decide) rfl (fun ls hl => ?_)
  refine lv_aload_n hx hb dL_law_577 rfl (lv_at hl 3 rfl) ?_
  refine lv_aload_n hx hb dL_law_578 rfl (lv_at hl 5 rfl) ?_
  refine lv_iload hx hb dL_law_579 (lv_at hl 1 rfl) ?_
  refine lv_iconst (v := nI 1) hx hb dL_law_581 (by decide +kernel) ?_
  refine lv_iadd hx hb dL_law_582 ?_
  refine lv_toI (z := nI (i + 1)) (nI_add _ _) ?_
  refine va_sld hx hb hX hbl (Nat.not_le.mpr hbl) hS (vp_in_nI (by omega) (by omega)) dL_law_583 ?_
  refine lv_aload_n hx hb dL_law_584 rfl (lv_at hl 5 rfl) ?_
  refine lv_iload hx hb dL_law_585 (lv_at hl 1 rfl) ?_
  refine lv_iconst (v := nI 2) hx hb dL_law_587 (by decide +kernel) ?_
  refine lv_iadd hx hb dL_law_588 ?_
  refine lv_toI (z := nI (i + 2)) (nI_add _ _) ?_
  refine va_sld hx hb hX hbl (Nat.not_le.mpr hbl) hS (vp_in_nI (by omega) (by omega)) dL_law_589 ?_
  refine lv_aload_n hx hb dL_law_590 rfl (lv_at hl 5 rfl) ?_
  refine lv_iload hx hb dL_law_591 (lv_at hl 1 rfl) ?_
  refine lv_iconst (v := nI 3) hx hb dL_law_593 (by decide +kernel) ?_
  refine lv_iadd hx hb dL_law_594 ?_
  refine lv_toI (z := nI (i + 3)) (nI_add _ _) ?_
  refine va_sld hx hb hX hbl (Nat.not_le.mpr hbl) hS (vp_in_nI (by omega) (by omega)) dL_law_595 ?_
  refine lw_M (As := [.int (xs (nI (i + 1)).toNatClampNeg), .int (xs (nI (i + 2)).toNatClampNeg), .int (xs (nI (i + 3)).toNatClampNeg)]) (rest := []) S hw2 (cwV 3 hts gL_law_X3_mend rfl r2 r3 (by decide +kernel) ⟨by show rm.frames + 1 ≤ 12; omega, by show 8 + (4 + 11) + rm.locals ≤ 436; omega⟩) hK (va_recv hK.1 hPm (ci := 3) (q0 := 0) rfl rfl) hD hP hPm hO hS rfl hl.1 rfl (Nat.le_of_ble_eq_true rfl) dL_law_596 ⟨by show _ ≤ room_1.cells; omega, by show _ ≤ room_1.slots; omega⟩ (fun H hW hS => ?_)
  refine lv_istore (lv' := [(6, .int (r)), (5, .int (code)), (4, .int (nI i)), (3, .ref (ou)), (2, .ref (h)), (1, .ref (AD 0)), (0, .ref (b))]) hx hb dL_law_599 hl (by decide) rfl (fun ls hl => ?_)
  refine lv_aload_n hx hb dL_law_601 rfl (lv_at hl 4 rfl) ?_
  refine p_V (As := []) (rest := []) S (c_X3_thrown l g h X V2 code lc2 ec2) (cwV 0 hts gL_law_X3_thrown rfl rfl rfl (by decide +kernel) ⟨Nat.le_of_ble_eq_true rfl, Nat.le_of_ble_eq_true rfl⟩) hK (va_recv hK.1 hW.2.1 (ci := 3) (q0 := 0) rfl rfl) hW.2.1 rfl hl.1 rfl (Nat.le_of_ble_eq_true rfl) dL_law_602 ⟨by show _ ≤ room_1.cells; omega, by show _ ≤ room_1.slots; omega⟩ ?_
  refine lv_iload hx hb dL_law_605 (lv_at hl 1 rfl) ?_
  refine lv_icmp_eq (tgt := 612) hx hb dL_law_607 (by decide) (fun _ => ?_) (fun z => absurd rfl z)
  refine lv_iload hx hb dL_law_612 (lv_at hl 1 rfl) ?_
  refine lv_if_ne (tgt := 629) hx hb dL_law_614 (by decide) (fun cz => ?_) (fun cz => ?_)
  · exact W.widen (by omega) (by omega) (lv_goto (tgt := 2038) hx hb dL_law_629 (by decide) (kk _ _ _ _ _ _ _ _ _ _ I2 hW hS (lv_sub hl [2, 3, 4, 5, 6] rfl)))
  refine lv_aload_n hx hb dL_law_617 rfl (lv_at hl 3 rfl) ?_
  refine lv_iconst (v := 0) hx hb dL_law_618 (by decide +kernel) ?_
  refine lw_gets hx hb hK hW.2.2 dL_law_619 ?_
  refine lv_toJ (z := r.toInt64) (hv cz) ?_
  refine lv_iload hx hb dL_law_620 (lv_at hl 0 rfl) ?_
  refine lv_i2l (v := r.toInt64) hx hb dL_law_622 rfl ?_
  refine W.lcmp hx hb dL_law_623 ?_
  refine lv_toI (z := 0) (cmp_eq _) ?_
  refine lv_if_eq (tgt := 629) hx hb dL_law_624 (by decide) (fun _ => ?_) (fun z => absurd rfl z)
  exact W.widen (by omega) (by omega) (lv_goto (tgt := 2038) hx hb dL_law_629 (by decide) (kk _ _ _ _ _ _ _ _ _ _ I2 hW hS (lv_sub hl [2, 3, 4, 5, 6] rfl)))

set_option maxHeartbeats 4000000 in
set_option maxRecDepth 100000 in
theorem law_seal {p : Program} {e : Env} {s : State} {m : MethodId} {below : List Frame} {meth : Method} {c : Code} {Q : State → Prop} (l : Launch) (hlt : l.stackTraces = false) (g : gT) {b L : Nat} {xs : Nat → Int32} {AD : Nat → Nat} {h : Nat} {X : Nat → Nat} {ou : Nat} (hx : p.tables.exec = Jvm.exec) (hb : c.code = cL_law) (hml : c.maxLocals = 9) (hts : ∀ w ∈ wsL_law, w.before #[Value.ref b] s = true) (hown : s.vm.findClass RL = some m.cls) (hK : KK g s) (hZ : ZZ s s.heap) (hX : va_X b L xs s s.heap) (hbl : b < s.heap.size) (hL : L ≤ 2048) (hD : LD g (hiA s) AD h X ou)
    {LL : Nat → ltT} {EE : Nat → evT} {LN : Nat → Nat} {lc ec : Nat} {V : Nat → Nat → Int32} {th : Int32} {v : Int64} {H : Heap} {cells slots i : Nat} {ls : Array Slot} (I : Inv LL EE LN lc ec V) (hW : LW g AD LL EE lc ec h X V th ou v H) (hS : va_S (hiA s) s.heap H []) (hi : i + 4 ≤ L) (hcl : cells + 36 ≤ room_1.cells) (hsl : slots + 264 ≤ room_1.slots) (hl : lv_has ls 9 [(4, .int (nI i)), (3, .ref ou), (2, .ref h), (1, .ref (AD 0)), (0, .ref b)])
    (kk : ∀ (LL : Nat → ltT) (EE : Nat → evT) (LN : Nat → Nat) (lc ec : Nat) (V : Nat → Nat → Int32) (th : Int32) (v : Int64) (H : Heap) (ls : Array Slot), Inv LL EE LN lc ec V → LW g AD LL EE lc ec h X V th ou v H → va_S (hiA s) s.heap H [] → lv_has ls 9 [(4, .int (nI i)), (3, .ref ou), (2, .ref h), (1, .ref (AD 0)), (0, .ref b)] → W p l e room_1 s m #[Value.ref b] below meth c H [] (cells + 36) (slots + 264) Q (F0 m 2038 ls [])) : W p l e room_1 s m #[Value.ref b] below meth c H [] cells slots Q (F0 m 632 ls []) := by
  have S : CallFix p m c cL_law 9 s #[Value.ref b] wsL_law RL := ⟨hx, hb, hml, hown, hts⟩
  obtain ⟨code, r, v2, LL2, EE2, LN2, lc2, ec2, V2, rm, hw1, ⟨r1, r2, r3, r4⟩, hw2, I2, hv⟩ := op_seal l hlt g AD h X LL EE LN lc ec V th ou v I (xs (nI (i + 1)).toNatClampNeg)
  refine lv_aload_n hx hb dL_law_632 rfl (lv_at hl 3 rfl) ?_
  refine lv_aload_n hx hb dL_law_633 rfl (lv_at hl 4 rfl) ?_
  refine lv_iload hx hb dL_law_634 (lv_at hl 0 rfl) ?_
  refine lv_iconst (v := nI 1) hx hb dL_law_636 (by decide +kernel) ?_
  refine lv_iadd hx hb dL_law_637 ?_
  refine lv_toI (z := nI (i + 1)) (nI_add _ _) ?_
  refine va_sld hx hb hX hbl (Nat.not_le.mpr hbl) hS (vp_in_nI (by omega) (by omega)) dL_law_638 ?_
  refine lv_aload_n hx hb dL_law_639 rfl (lv_at hl 1 rfl) ?_
  refine lw_W (h := h) (X := X) (As := [.ref (AD 0), .int (xs (nI (i + 1)).toNatClampNeg), .ref (ou)]) (rest := []) S hw1 (vx_cwSW 3 hts gL_law_L_seal rfl rfl rfl (by decide +kernel) ⟨Nat.le_of_ble_eq_true rfl, Nat.le_of_ble_eq_true rfl⟩) hK hZ hD hW hS rfl hl.1 rfl (Nat.le_of_ble_eq_true rfl) dL_law_640 ⟨by show _ ≤ room_1.cells; omega, by show _ ≤ room_1.slots; omega⟩ (fun H hP hPm hO hS => ?_)
  refine lv_istore (lv' := [(5, .int (code)), (4, .int (nI i)), (3, .ref (ou)), (2, .ref (h)), (1, .ref (AD 0)), (0, .ref (b))]) hx hb dL_law_643 hl (by decide) rfl (fun ls hl => ?_)
  refine lv_aload_n hx hb dL_law_645 rfl (lv_at hl 3 rfl) ?_
  refine lv_aload_n hx hb dL_law_646 rfl (lv_at hl 5 rfl) ?_
  refine lv_iload hx hb dL_law_647 (lv_at hl 1 rfl) ?_
  refine lv_iconst (v := nI 1) hx hb dL_law_649 (by decide +kernel) ?_
  refine lv_iadd hx hb dL_law_650 ?_
  refine lv_toI (z := nI (i + 1)) (nI_add _ _) ?_
  refine va_sld hx hb hX hbl (Nat.not_le.mpr hbl) hS (vp_in_nI (by omega) (by omega)) dL_law_651 ?_
  refine lw_M (As := [.int (xs (nI (i + 1)).toNatClampNeg)]) (rest := []) S hw2 (cwV 1 hts gL_law_X3_seal rfl r2 r3 (by decide +kernel) ⟨by show rm.frames + 1 ≤ 12; omega, by show 8 + (4 + 11) + rm.locals ≤ 436; omega⟩) hK (va_recv hK.1 hPm (ci := 3) (q0 := 0) rfl rfl) hD hP hPm hO hS rfl hl.1 rfl (Nat.le_of_ble_eq_true rfl) dL_law_652 ⟨by show _ ≤ room_1.cells; omega, by show _ ≤ room_1.slots; omega⟩ (fun H hW hS => ?_)
  refine lv_istore (lv' := [(6, .int (r)), (5, .int (code)), (4, .int (nI i)), (3, .ref (ou)), (2, .ref (h)), (1, .ref (AD 0)), (0, .ref (b))]) hx hb dL_law_655 hl (by decide) rfl (fun ls hl => ?_)
  refine lv_aload_n hx hb dL_law_657 rfl (lv_at hl 4 rfl) ?_
  refine p_V (As := []) (rest := []) S (c_X3_thrown l g h X V2 code lc2 ec2) (cwV 0 hts gL_law_X3_thrown rfl rfl rfl (by decide +kernel) ⟨Nat.le_of_ble_eq_true rfl, Nat.le_of_ble_eq_true rfl⟩) hK (va_recv hK.1 hW.2.1 (ci := 3) (q0 := 0) rfl rfl) hW.2.1 rfl hl.1 rfl (Nat.le_of_ble_eq_true rfl) dL_law_658 ⟨by show _ ≤ room_1.cells; omega, by show _ ≤ room_1.slots; omega⟩ ?_
  refine lv_iload hx hb dL_law_661 (lv_at hl 1 rfl) ?_
  refine lv_icmp_eq (tgt := 668) hx hb dL_law_663 (by decide) (fun _ => ?_) (fun z => absurd rfl z)
  refine lv_iload hx hb dL_law_668 (lv_at hl 1 rfl) ?_
  refine lv_if_ne (tgt := 685) hx hb dL_law_670 (by decide) (fun cz => ?_) (fun cz => ?_)
  · exact W.widen (by omega) (by omega) (lv_goto (tgt := 2038) hx hb dL_law_685 (by decide) (kk _ _ _ _ _ _ _ _ _ _ I2 hW hS (lv_sub hl [2, 3, 4, 5, 6] rfl)))
  refine lv_aload_n hx hb dL_law_673 rfl (lv_at hl 3 rfl) ?_
  refine lv_iconst (v := 0) hx hb dL_law_674 (by decide +kernel) ?_
  refine lw_gets hx hb hK hW.2.2 dL_law_675 ?_
  refine lv_toJ (z := r.toInt64) (hv cz) ?_
  refine lv_iload hx hb dL_law_676 (lv_at hl 0 rfl) ?_
  refine lv_i2l (v := r.toInt64) hx hb dL_law_678 rfl ?_
  refine W.lcmp hx hb dL_law_679 ?_
  refine lv_toI (z := 0) (cmp_eq _) ?_
  refine lv_if_eq (tgt := 685) hx hb dL_law_680 (by decide) (fun _ => ?_) (fun z => absurd rfl z)
  exact W.widen (by omega) (by omega) (lv_goto (tgt := 2038) hx hb dL_law_685 (by decide) (kk _ _ _ _ _ _ _ _ _ _ I2 hW hS (lv_sub hl [2, 3, 4, 5, 6] rfl)))

set_option maxHeartbeats 4000000 in
set_option maxRecDepth 100000 in
theorem law_unseal {p : Program} {e : Env} {s : State} {m : MethodId} {below : List Frame} {meth : Method} {c : Code} {Q : State → Prop} (l : Launch) (hlt : l.stackTraces = false) (g : gT) {b L : Nat} {xs : Nat → Int32} {AD : Nat → Nat} {h : Nat} {X : Nat → Nat} {ou : Nat} (hx : p.tables.exec = Jvm.exec) (hb : c.code = cL_law) (hml : c.maxLocals = 9) (hts : ∀ w ∈ wsL_law, w.before #[Value.ref b] s = true) (hown : s.vm.findClass RL = some m.cls) (hK : KK g s) (hZ : ZZ s s.heap) (hX : va_X b L xs s s.heap) (hbl : b < s.heap.size) (hL : L ≤ 2048) (hD : LD g (hiA s) AD h X ou)
    {LL : Nat → ltT} {EE : Nat → evT} {LN : Nat → Nat} {lc ec : Nat} {V : Nat → Nat → Int32} {th : Int32} {v : Int64} {H : Heap} {cells slots i : Nat} {ls : Array Slot} (I : Inv LL EE LN lc ec V) (hW : LW g AD LL EE lc ec h X V th ou v H) (hS : va_S (hiA s) s.heap H []) (hi : i + 4 ≤ L) (hcl : cells + 36 ≤ room_1.cells) (hsl : slots + 264 ≤ room_1.slots) (hl : lv_has ls 9 [(4, .int (nI i)), (3, .ref ou), (2, .ref h), (1, .ref (AD 0)), (0, .ref b)])
    (kk : ∀ (LL : Nat → ltT) (EE : Nat → evT) (LN : Nat → Nat) (lc ec : Nat) (V : Nat → Nat → Int32) (th : Int32) (v : Int64) (H : Heap) (ls : Array Slot), Inv LL EE LN lc ec V → LW g AD LL EE lc ec h X V th ou v H → va_S (hiA s) s.heap H [] → lv_has ls 9 [(4, .int (nI i)), (3, .ref ou), (2, .ref h), (1, .ref (AD 0)), (0, .ref b)] → W p l e room_1 s m #[Value.ref b] below meth c H [] (cells + 36) (slots + 264) Q (F0 m 2038 ls [])) : W p l e room_1 s m #[Value.ref b] below meth c H [] cells slots Q (F0 m 688 ls []) := by
  have S : CallFix p m c cL_law 9 s #[Value.ref b] wsL_law RL := ⟨hx, hb, hml, hown, hts⟩
  obtain ⟨code, r, v2, LL2, EE2, LN2, lc2, ec2, V2, rm, hw1, ⟨r1, r2, r3, r4⟩, hw2, I2, hv⟩ := op_unseal l hlt g AD h X LL EE LN lc ec V th ou v I 
  refine lv_aload_n hx hb dL_law_688 rfl (lv_at hl 3 rfl) ?_
  refine lv_aload_n hx hb dL_law_689 rfl (lv_at hl 1 rfl) ?_
  refine lw_W (h := h) (X := X) (As := [.ref (AD 0), .ref (ou)]) (rest := []) S hw1 (vx_cwSW 2 hts gL_law_L_unseal rfl rfl rfl (by decide +kernel) ⟨Nat.le_of_ble_eq_true rfl, Nat.le_of_ble_eq_true rfl⟩) hK hZ hD hW hS rfl hl.1 rfl (Nat.le_of_ble_eq_true rfl) dL_law_690 ⟨by show _ ≤ room_1.cells; omega, by show _ ≤ room_1.slots; omega⟩ (fun H hP hPm hO hS => ?_)
  refine lv_istore (lv' := [(5, .int (code)), (4, .int (nI i)), (3, .ref (ou)), (2, .ref (h)), (1, .ref (AD 0)), (0, .ref (b))]) hx hb dL_law_693 hl (by decide) rfl (fun ls hl => ?_)
  refine lv_aload_n hx hb dL_law_695 rfl (lv_at hl 3 rfl) ?_
  refine lw_M (As := []) (rest := []) S hw2 (cwV 0 hts gL_law_X3_unseal rfl r2 r3 (by decide +kernel) ⟨by show rm.frames + 1 ≤ 12; omega, by show 8 + (1 + 11) + rm.locals ≤ 436; omega⟩) hK (va_recv hK.1 hPm (ci := 3) (q0 := 0) rfl rfl) hD hP hPm hO hS rfl hl.1 rfl (Nat.le_of_ble_eq_true rfl) dL_law_696 ⟨by show _ ≤ room_1.cells; omega, by show _ ≤ room_1.slots; omega⟩ (fun H hW hS => ?_)
  refine lv_istore (lv' := [(6, .int (r)), (5, .int (code)), (4, .int (nI i)), (3, .ref (ou)), (2, .ref (h)), (1, .ref (AD 0)), (0, .ref (b))]) hx hb dL_law_699 hl (by decide) rfl (fun ls hl => ?_)
  refine lv_aload_n hx hb dL_law_701 rfl (lv_at hl 4 rfl) ?_
  refine p_V (As := []) (rest := []) S (c_X3_thrown l g h X V2 code lc2 ec2) (cwV 0 hts gL_law_X3_thrown rfl rfl rfl (by decide +kernel) ⟨Nat.le_of_ble_eq_true rfl, Nat.le_of_ble_eq_true rfl⟩) hK (va_recv hK.1 hW.2.1 (ci := 3) (q0 := 0) rfl rfl) hW.2.1 rfl hl.1 rfl (Nat.le_of_ble_eq_true rfl) dL_law_702 ⟨by show _ ≤ room_1.cells; omega, by show _ ≤ room_1.slots; omega⟩ ?_
  refine lv_iload hx hb dL_law_705 (lv_at hl 1 rfl) ?_
  refine lv_icmp_eq (tgt := 712) hx hb dL_law_707 (by decide) (fun _ => ?_) (fun z => absurd rfl z)
  refine lv_iload hx hb dL_law_712 (lv_at hl 1 rfl) ?_
  refine lv_if_ne (tgt := 729) hx hb dL_law_714 (by decide) (fun cz => ?_) (fun cz => ?_)
  · exact W.widen (by omega) (by omega) (lv_goto (tgt := 2038) hx hb dL_law_729 (by decide) (kk _ _ _ _ _ _ _ _ _ _ I2 hW hS (lv_sub hl [2, 3, 4, 5, 6] rfl)))
  refine lv_aload_n hx hb dL_law_717 rfl (lv_at hl 3 rfl) ?_
  refine lv_iconst (v := 0) hx hb dL_law_718 (by decide +kernel) ?_
  refine lw_gets hx hb hK hW.2.2 dL_law_719 ?_
  refine lv_toJ (z := r.toInt64) (hv cz) ?_
  refine lv_iload hx hb dL_law_720 (lv_at hl 0 rfl) ?_
  refine lv_i2l (v := r.toInt64) hx hb dL_law_722 rfl ?_
  refine W.lcmp hx hb dL_law_723 ?_
  refine lv_toI (z := 0) (cmp_eq _) ?_
  refine lv_if_eq (tgt := 729) hx hb dL_law_724 (by decide) (fun _ => ?_) (fun z => absurd rfl z)
  exact W.widen (by omega) (by omega) (lv_goto (tgt := 2038) hx hb dL_law_729 (by decide) (kk _ _ _ _ _ _ _ _ _ _ I2 hW hS (lv_sub hl [2, 3, 4, 5, 6] rfl)))

set_option maxHeartbeats 4000000 in
set_option maxRecDepth 100000 in
theorem law_signsOf {p : Program} {e : Env} {s : State} {m : MethodId} {below : List Frame} {meth : Method} {c : Code} {Q : State → Prop} (l : Launch) (hlt : l.stackTraces = false) (g : gT) {b L : Nat} {xs : Nat → Int32} {AD : Nat → Nat} {h : Nat} {X : Nat → Nat} {ou : Nat} (hx : p.tables.exec = Jvm.exec) (hb : c.code = cL_law) (hml : c.maxLocals = 9) (hts : ∀ w ∈ wsL_law, w.before #[Value.ref b] s = true) (hown : s.vm.findClass RL = some m.cls) (hK : KK g s) (hZ : ZZ s s.heap) (hX : va_X b L xs s s.heap) (hbl : b < s.heap.size) (hL : L ≤ 2048) (hD : LD g (hiA s) AD h X ou)
    {LL : Nat → ltT} {EE : Nat → evT} {LN : Nat → Nat} {lc ec : Nat} {V : Nat → Nat → Int32} {th : Int32} {v : Int64} {H : Heap} {cells slots i : Nat} {ls : Array Slot} (I : Inv LL EE LN lc ec V) (hW : LW g AD LL EE lc ec h X V th ou v H) (hS : va_S (hiA s) s.heap H []) (hi : i + 4 ≤ L) (hcl : cells + 36 ≤ room_1.cells) (hsl : slots + 264 ≤ room_1.slots) (hl : lv_has ls 9 [(4, .int (nI i)), (3, .ref ou), (2, .ref h), (1, .ref (AD 0)), (0, .ref b)])
    (kk : ∀ (LL : Nat → ltT) (EE : Nat → evT) (LN : Nat → Nat) (lc ec : Nat) (V : Nat → Nat → Int32) (th : Int32) (v : Int64) (H : Heap) (ls : Array Slot), Inv LL EE LN lc ec V → LW g AD LL EE lc ec h X V th ou v H → va_S (hiA s) s.heap H [] → lv_has ls 9 [(4, .int (nI i)), (3, .ref ou), (2, .ref h), (1, .ref (AD 0)), (0, .ref b)] → W p l e room_1 s m #[Value.ref b] below meth c H [] (cells + 36) (slots + 264) Q (F0 m 2038 ls [])) : W p l e room_1 s m #[Value.ref b] below meth c H [] cells slots Q (F0 m 745 ls []) := by
  have S : CallFix p m c cL_law 9 s #[Value.ref b] wsL_law RL := ⟨hx, hb, hml, hown, hts⟩
  obtain ⟨code, r, v2, LL2, EE2, LN2, lc2, ec2, V2, rm, hw1, ⟨r1, r2, r3, r4⟩, hw2, I2, hv⟩ := op_signsOf l hlt g AD h X LL EE LN lc ec V th ou v I (xs (nI (i + 1)).toNatClampNeg)
  refine lv_aload_n hx hb dL_law_745 rfl (lv_at hl 3 rfl) ?_
  refine lv_aload_n hx hb dL_law_746 rfl (lv_at hl 4 rfl) ?_
  refine lv_iload hx hb dL_law_747 (lv_at hl 0 rfl) ?_
  refine lv_iconst (v := nI 1) hx hb dL_law_749 (by decide +kernel) ?_
  refine lv_iadd hx hb dL_law_750 ?_
  refine lv_toI (z := nI (i + 1)) (nI_add _ _) ?_
  refine va_sld hx hb hX hbl (Nat.not_le.mpr hbl) hS (vp_in_nI (by omega) (by omega)) dL_law_751 ?_
  refine lv_aload_n hx hb dL_law_752 rfl (lv_at hl 1 rfl) ?_
  refine lw_W (h := h) (X := X) (As := [.ref (AD 0), .int (xs (nI (i + 1)).toNatClampNeg), .ref (ou)]) (rest := []) S hw1 (vx_cwSW 3 hts gL_law_L_signsOf rfl rfl rfl (by decide +kernel) ⟨Nat.le_of_ble_eq_true rfl, Nat.le_of_ble_eq_true rfl⟩) hK hZ hD hW hS rfl hl.1 rfl (Nat.le_of_ble_eq_true rfl) dL_law_753 ⟨by show _ ≤ room_1.cells; omega, by show _ ≤ room_1.slots; omega⟩ (fun H hP hPm hO hS => ?_)
  refine lv_istore (lv' := [(5, .int (code)), (4, .int (nI i)), (3, .ref (ou)), (2, .ref (h)), (1, .ref (AD 0)), (0, .ref (b))]) hx hb dL_law_756 hl (by decide) rfl (fun ls hl => ?_)
  refine lv_aload_n hx hb dL_law_758 rfl (lv_at hl 3 rfl) ?_
  refine lv_aload_n hx hb dL_law_759 rfl (lv_at hl 5 rfl) ?_
  refine lv_iload hx hb dL_law_760 (lv_at hl 1 rfl) ?_
  refine lv_iconst (v := nI 1) hx hb dL_law_762 (by decide +kernel) ?_
  refine lv_iadd hx hb dL_law_763 ?_
  refine lv_toI (z := nI (i + 1)) (nI_add _ _) ?_
  refine va_sld hx hb hX hbl (Nat.not_le.mpr hbl) hS (vp_in_nI (by omega) (by omega)) dL_law_764 ?_
  refine lw_M (As := [.int (xs (nI (i + 1)).toNatClampNeg)]) (rest := []) S hw2 (cwV 1 hts gL_law_X3_signsOf rfl r2 r3 (by decide +kernel) ⟨by show rm.frames + 1 ≤ 12; omega, by show 8 + (2 + 11) + rm.locals ≤ 436; omega⟩) hK (va_recv hK.1 hPm (ci := 3) (q0 := 0) rfl rfl) hD hP hPm hO hS rfl hl.1 rfl (Nat.le_of_ble_eq_true rfl) dL_law_765 ⟨by show _ ≤ room_1.cells; omega, by show _ ≤ room_1.slots; omega⟩ (fun H hW hS => ?_)
  refine lv_istore (lv' := [(6, .int (r)), (5, .int (code)), (4, .int (nI i)), (3, .ref (ou)), (2, .ref (h)), (1, .ref (AD 0)), (0, .ref (b))]) hx hb dL_law_768 hl (by decide) rfl (fun ls hl => ?_)
  refine lv_aload_n hx hb dL_law_770 rfl (lv_at hl 4 rfl) ?_
  refine p_V (As := []) (rest := []) S (c_X3_thrown l g h X V2 code lc2 ec2) (cwV 0 hts gL_law_X3_thrown rfl rfl rfl (by decide +kernel) ⟨Nat.le_of_ble_eq_true rfl, Nat.le_of_ble_eq_true rfl⟩) hK (va_recv hK.1 hW.2.1 (ci := 3) (q0 := 0) rfl rfl) hW.2.1 rfl hl.1 rfl (Nat.le_of_ble_eq_true rfl) dL_law_771 ⟨by show _ ≤ room_1.cells; omega, by show _ ≤ room_1.slots; omega⟩ ?_
  refine lv_iload hx hb dL_law_774 (lv_at hl 1 rfl) ?_
  refine lv_icmp_eq (tgt := 781) hx hb dL_law_776 (by decide) (fun _ => ?_) (fun z => absurd rfl z)
  refine lv_iload hx hb dL_law_781 (lv_at hl 1 rfl) ?_
  refine lv_if_ne (tgt := 798) hx hb dL_law_783 (by decide) (fun cz => ?_) (fun cz => ?_)
  · exact W.widen (by omega) (by omega) (lv_goto (tgt := 2038) hx hb dL_law_798 (by decide) (kk _ _ _ _ _ _ _ _ _ _ I2 hW hS (lv_sub hl [2, 3, 4, 5, 6] rfl)))
  refine lv_aload_n hx hb dL_law_786 rfl (lv_at hl 3 rfl) ?_
  refine lv_iconst (v := 0) hx hb dL_law_787 (by decide +kernel) ?_
  refine lw_gets hx hb hK hW.2.2 dL_law_788 ?_
  refine lv_toJ (z := r.toInt64) (hv cz) ?_
  refine lv_iload hx hb dL_law_789 (lv_at hl 0 rfl) ?_
  refine lv_i2l (v := r.toInt64) hx hb dL_law_791 rfl ?_
  refine W.lcmp hx hb dL_law_792 ?_
  refine lv_toI (z := 0) (cmp_eq _) ?_
  refine lv_if_eq (tgt := 798) hx hb dL_law_793 (by decide) (fun _ => ?_) (fun z => absurd rfl z)
  exact W.widen (by omega) (by omega) (lv_goto (tgt := 2038) hx hb dL_law_798 (by decide) (kk _ _ _ _ _ _ _ _ _ _ I2 hW hS (lv_sub hl [2, 3, 4, 5, 6] rfl)))

set_option maxHeartbeats 4000000 in
set_option maxRecDepth 100000 in
theorem law_commasOf {p : Program} {e : Env} {s : State} {m : MethodId} {below : List Frame} {meth : Method} {c : Code} {Q : State → Prop} (l : Launch) (hlt : l.stackTraces = false) (g : gT) {b L : Nat} {xs : Nat → Int32} {AD : Nat → Nat} {h : Nat} {X : Nat → Nat} {ou : Nat} (hx : p.tables.exec = Jvm.exec) (hb : c.code = cL_law) (hml : c.maxLocals = 9) (hts : ∀ w ∈ wsL_law, w.before #[Value.ref b] s = true) (hown : s.vm.findClass RL = some m.cls) (hK : KK g s) (hZ : ZZ s s.heap) (hX : va_X b L xs s s.heap) (hbl : b < s.heap.size) (hL : L ≤ 2048) (hD : LD g (hiA s) AD h X ou)
    {LL : Nat → ltT} {EE : Nat → evT} {LN : Nat → Nat} {lc ec : Nat} {V : Nat → Nat → Int32} {th : Int32} {v : Int64} {H : Heap} {cells slots i : Nat} {ls : Array Slot} (I : Inv LL EE LN lc ec V) (hW : LW g AD LL EE lc ec h X V th ou v H) (hS : va_S (hiA s) s.heap H []) (hi : i + 4 ≤ L) (hcl : cells + 36 ≤ room_1.cells) (hsl : slots + 264 ≤ room_1.slots) (hl : lv_has ls 9 [(4, .int (nI i)), (3, .ref ou), (2, .ref h), (1, .ref (AD 0)), (0, .ref b)])
    (kk : ∀ (LL : Nat → ltT) (EE : Nat → evT) (LN : Nat → Nat) (lc ec : Nat) (V : Nat → Nat → Int32) (th : Int32) (v : Int64) (H : Heap) (ls : Array Slot), Inv LL EE LN lc ec V → LW g AD LL EE lc ec h X V th ou v H → va_S (hiA s) s.heap H [] → lv_has ls 9 [(4, .int (nI i)), (3, .ref ou), (2, .ref h), (1, .ref (AD 0)), (0, .ref b)] → W p l e room_1 s m #[Value.ref b] below meth c H [] (cells + 36) (slots + 264) Q (F0 m 2038 ls [])) : W p l e room_1 s m #[Value.ref b] below meth c H [] cells slots Q (F0 m 801 ls []) := by
  have S : CallFix p m c cL_law 9 s #[Value.ref b] wsL_law RL := ⟨hx, hb, hml, hown, hts⟩
  obtain ⟨code, r, v2, LL2, EE2, LN2, lc2, ec2, V2, rm, hw1, ⟨r1, r2, r3, r4⟩, hw2, I2, hv⟩ := op_commasOf l hlt g AD h X LL EE LN lc ec V th ou v I (xs (nI (i + 1)).toNatClampNeg)
  refine lv_aload_n hx hb dL_law_801 rfl (lv_at hl 3 rfl) ?_
  refine lv_aload_n hx hb dL_law_802 rfl (lv_at hl 4 rfl) ?_
  refine lv_iload hx hb dL_law_803 (lv_at hl 0 rfl) ?_
  refine lv_iconst (v := nI 1) hx hb dL_law_805 (by decide +kernel) ?_
  refine lv_iadd hx hb dL_law_806 ?_
  refine lv_toI (z := nI (i + 1)) (nI_add _ _) ?_
  refine va_sld hx hb hX hbl (Nat.not_le.mpr hbl) hS (vp_in_nI (by omega) (by omega)) dL_law_807 ?_
  refine lv_aload_n hx hb dL_law_808 rfl (lv_at hl 1 rfl) ?_
  refine lw_W (h := h) (X := X) (As := [.ref (AD 0), .int (xs (nI (i + 1)).toNatClampNeg), .ref (ou)]) (rest := []) S hw1 (vx_cwSW 3 hts gL_law_L_commasOf rfl rfl rfl (by decide +kernel) ⟨Nat.le_of_ble_eq_true rfl, Nat.le_of_ble_eq_true rfl⟩) hK hZ hD hW hS rfl hl.1 rfl (Nat.le_of_ble_eq_true rfl) dL_law_809 ⟨by show _ ≤ room_1.cells; omega, by show _ ≤ room_1.slots; omega⟩ (fun H hP hPm hO hS => ?_)
  refine lv_istore (lv' := [(5, .int (code)), (4, .int (nI i)), (3, .ref (ou)), (2, .ref (h)), (1, .ref (AD 0)), (0, .ref (b))]) hx hb dL_law_812 hl (by decide) rfl (fun ls hl => ?_)
  refine lv_aload_n hx hb dL_law_814 rfl (lv_at hl 3 rfl) ?_
  refine lv_aload_n hx hb dL_law_815 rfl (lv_at hl 5 rfl) ?_
  refine lv_iload hx hb dL_law_816 (lv_at hl 1 rfl) ?_
  refine lv_iconst (v := nI 1) hx hb dL_law_818 (by decide +kernel) ?_
  refine lv_iadd hx hb dL_law_819 ?_
  refine lv_toI (z := nI (i + 1)) (nI_add _ _) ?_
  refine va_sld hx hb hX hbl (Nat.not_le.mpr hbl) hS (vp_in_nI (by omega) (by omega)) dL_law_820 ?_
  refine lw_M (As := [.int (xs (nI (i + 1)).toNatClampNeg)]) (rest := []) S hw2 (cwV 1 hts gL_law_X3_commasOf rfl r2 r3 (by decide +kernel) ⟨by show rm.frames + 1 ≤ 12; omega, by show 8 + (2 + 11) + rm.locals ≤ 436; omega⟩) hK (va_recv hK.1 hPm (ci := 3) (q0 := 0) rfl rfl) hD hP hPm hO hS rfl hl.1 rfl (Nat.le_of_ble_eq_true rfl) dL_law_821 ⟨by show _ ≤ room_1.cells; omega, by show _ ≤ room_1.slots; omega⟩ (fun H hW hS => ?_)
  refine lv_istore (lv' := [(6, .int (r)), (5, .int (code)), (4, .int (nI i)), (3, .ref (ou)), (2, .ref (h)), (1, .ref (AD 0)), (0, .ref (b))]) hx hb dL_law_824 hl (by decide) rfl (fun ls hl => ?_)
  refine lv_aload_n hx hb dL_law_826 rfl (lv_at hl 4 rfl) ?_
  refine p_V (As := []) (rest := []) S (c_X3_thrown l g h X V2 code lc2 ec2) (cwV 0 hts gL_law_X3_thrown rfl rfl rfl (by decide +kernel) ⟨Nat.le_of_ble_eq_true rfl, Nat.le_of_ble_eq_true rfl⟩) hK (va_recv hK.1 hW.2.1 (ci := 3) (q0 := 0) rfl rfl) hW.2.1 rfl hl.1 rfl (Nat.le_of_ble_eq_true rfl) dL_law_827 ⟨by show _ ≤ room_1.cells; omega, by show _ ≤ room_1.slots; omega⟩ ?_
  refine lv_iload hx hb dL_law_830 (lv_at hl 1 rfl) ?_
  refine lv_icmp_eq (tgt := 837) hx hb dL_law_832 (by decide) (fun _ => ?_) (fun z => absurd rfl z)
  refine lv_iload hx hb dL_law_837 (lv_at hl 1 rfl) ?_
  refine lv_if_ne (tgt := 854) hx hb dL_law_839 (by decide) (fun cz => ?_) (fun cz => ?_)
  · exact W.widen (by omega) (by omega) (lv_goto (tgt := 2038) hx hb dL_law_854 (by decide) (kk _ _ _ _ _ _ _ _ _ _ I2 hW hS (lv_sub hl [2, 3, 4, 5, 6] rfl)))
  refine lv_aload_n hx hb dL_law_842 rfl (lv_at hl 3 rfl) ?_
  refine lv_iconst (v := 0) hx hb dL_law_843 (by decide +kernel) ?_
  refine lw_gets hx hb hK hW.2.2 dL_law_844 ?_
  refine lv_toJ (z := r.toInt64) (hv cz) ?_
  refine lv_iload hx hb dL_law_845 (lv_at hl 0 rfl) ?_
  refine lv_i2l (v := r.toInt64) hx hb dL_law_847 rfl ?_
  refine W.lcmp hx hb dL_law_848 ?_
  refine lv_toI (z := 0) (cmp_eq _) ?_
  refine lv_if_eq (tgt := 854) hx hb dL_law_849 (by decide) (fun _ => ?_) (fun z => absurd rfl z)
  exact W.widen (by omega) (by omega) (lv_goto (tgt := 2038) hx hb dL_law_854 (by decide) (kk _ _ _ _ _ _ _ _ _ _ I2 hW hS (lv_sub hl [2, 3, 4, 5, 6] rfl)))

set_option maxHeartbeats 4000000 in
set_option maxRecDepth 100000 in
theorem law_tearsOf {p : Program} {e : Env} {s : State} {m : MethodId} {below : List Frame} {meth : Method} {c : Code} {Q : State → Prop} (l : Launch) (hlt : l.stackTraces = false) (g : gT) {b L : Nat} {xs : Nat → Int32} {AD : Nat → Nat} {h : Nat} {X : Nat → Nat} {ou : Nat} (hx : p.tables.exec = Jvm.exec) (hb : c.code = cL_law) (hml : c.maxLocals = 9) (hts : ∀ w ∈ wsL_law, w.before #[Value.ref b] s = true) (hown : s.vm.findClass RL = some m.cls) (hK : KK g s) (hZ : ZZ s s.heap) (hX : va_X b L xs s s.heap) (hbl : b < s.heap.size) (hL : L ≤ 2048) (hD : LD g (hiA s) AD h X ou)
    {LL : Nat → ltT} {EE : Nat → evT} {LN : Nat → Nat} {lc ec : Nat} {V : Nat → Nat → Int32} {th : Int32} {v : Int64} {H : Heap} {cells slots i : Nat} {ls : Array Slot} (I : Inv LL EE LN lc ec V) (hW : LW g AD LL EE lc ec h X V th ou v H) (hS : va_S (hiA s) s.heap H []) (hi : i + 4 ≤ L) (hcl : cells + 36 ≤ room_1.cells) (hsl : slots + 264 ≤ room_1.slots) (hl : lv_has ls 9 [(4, .int (nI i)), (3, .ref ou), (2, .ref h), (1, .ref (AD 0)), (0, .ref b)])
    (kk : ∀ (LL : Nat → ltT) (EE : Nat → evT) (LN : Nat → Nat) (lc ec : Nat) (V : Nat → Nat → Int32) (th : Int32) (v : Int64) (H : Heap) (ls : Array Slot), Inv LL EE LN lc ec V → LW g AD LL EE lc ec h X V th ou v H → va_S (hiA s) s.heap H [] → lv_has ls 9 [(4, .int (nI i)), (3, .ref ou), (2, .ref h), (1, .ref (AD 0)), (0, .ref b)] → W p l e room_1 s m #[Value.ref b] below meth c H [] (cells + 36) (slots + 264) Q (F0 m 2038 ls [])) : W p l e room_1 s m #[Value.ref b] below meth c H [] cells slots Q (F0 m 857 ls []) := by
  have S : CallFix p m c cL_law 9 s #[Value.ref b] wsL_law RL := ⟨hx, hb, hml, hown, hts⟩
  obtain ⟨code, r, v2, LL2, EE2, LN2, lc2, ec2, V2, rm, hw1, ⟨r1, r2, r3, r4⟩, hw2, I2, hv⟩ := op_tearsOf l hlt g AD h X LL EE LN lc ec V th ou v I (xs (nI (i + 1)).toNatClampNeg)
  refine lv_aload_n hx hb dL_law_857 rfl (lv_at hl 3 rfl) ?_
  refine lv_aload_n hx hb dL_law_858 rfl (lv_at hl 4 rfl) ?_
  refine lv_iload hx hb dL_law_859 (lv_at hl 0 rfl) ?_
  refine lv_iconst (v := nI 1) hx hb dL_law_861 (by decide +kernel) ?_
  refine lv_iadd hx hb dL_law_862 ?_
  refine lv_toI (z := nI (i + 1)) (nI_add _ _) ?_
  refine va_sld hx hb hX hbl (Nat.not_le.mpr hbl) hS (vp_in_nI (by omega) (by omega)) dL_law_863 ?_
  refine lv_aload_n hx hb dL_law_864 rfl (lv_at hl 1 rfl) ?_
  refine lw_W (h := h) (X := X) (As := [.ref (AD 0), .int (xs (nI (i + 1)).toNatClampNeg), .ref (ou)]) (rest := []) S hw1 (vx_cwSW 3 hts gL_law_L_tearsOf rfl rfl rfl (by decide +kernel) ⟨Nat.le_of_ble_eq_true rfl, Nat.le_of_ble_eq_true rfl⟩) hK hZ hD hW hS rfl hl.1 rfl (Nat.le_of_ble_eq_true rfl) dL_law_865 ⟨by show _ ≤ room_1.cells; omega, by show _ ≤ room_1.slots; omega⟩ (fun H hP hPm hO hS => ?_)
  refine lv_istore (lv' := [(5, .int (code)), (4, .int (nI i)), (3, .ref (ou)), (2, .ref (h)), (1, .ref (AD 0)), (0, .ref (b))]) hx hb dL_law_868 hl (by decide) rfl (fun ls hl => ?_)
  refine lv_aload_n hx hb dL_law_870 rfl (lv_at hl 3 rfl) ?_
  refine lv_aload_n hx hb dL_law_871 rfl (lv_at hl 5 rfl) ?_
  refine lv_iload hx hb dL_law_872 (lv_at hl 1 rfl) ?_
  refine lv_iconst (v := nI 1) hx hb dL_law_874 (by decide +kernel) ?_
  refine lv_iadd hx hb dL_law_875 ?_
  refine lv_toI (z := nI (i + 1)) (nI_add _ _) ?_
  refine va_sld hx hb hX hbl (Nat.not_le.mpr hbl) hS (vp_in_nI (by omega) (by omega)) dL_law_876 ?_
  refine lw_M (As := [.int (xs (nI (i + 1)).toNatClampNeg)]) (rest := []) S hw2 (cwV 1 hts gL_law_X3_tearsOf rfl r2 r3 (by decide +kernel) ⟨by show rm.frames + 1 ≤ 12; omega, by show 8 + (2 + 11) + rm.locals ≤ 436; omega⟩) hK (va_recv hK.1 hPm (ci := 3) (q0 := 0) rfl rfl) hD hP hPm hO hS rfl hl.1 rfl (Nat.le_of_ble_eq_true rfl) dL_law_877 ⟨by show _ ≤ room_1.cells; omega, by show _ ≤ room_1.slots; omega⟩ (fun H hW hS => ?_)
  refine lv_istore (lv' := [(6, .int (r)), (5, .int (code)), (4, .int (nI i)), (3, .ref (ou)), (2, .ref (h)), (1, .ref (AD 0)), (0, .ref (b))]) hx hb dL_law_880 hl (by decide) rfl (fun ls hl => ?_)
  refine lv_aload_n hx hb dL_law_882 rfl (lv_at hl 4 rfl) ?_
  refine p_V (As := []) (rest := []) S (c_X3_thrown l g h X V2 code lc2 ec2) (cwV 0 hts gL_law_X3_thrown rfl rfl rfl (by decide +kernel) ⟨Nat.le_of_ble_eq_true rfl, Nat.le_of_ble_eq_true rfl⟩) hK (va_recv hK.1 hW.2.1 (ci := 3) (q0 := 0) rfl rfl) hW.2.1 rfl hl.1 rfl (Nat.le_of_ble_eq_true rfl) dL_law_883 ⟨by show _ ≤ room_1.cells; omega, by show _ ≤ room_1.slots; omega⟩ ?_
  refine lv_iload hx hb dL_law_886 (lv_at hl 1 rfl) ?_
  refine lv_icmp_eq (tgt := 893) hx hb dL_law_888 (by decide) (fun _ => ?_) (fun z => absurd rfl z)
  refine lv_iload hx hb dL_law_893 (lv_at hl 1 rfl) ?_
  refine lv_if_ne (tgt := 910) hx hb dL_law_895 (by decide) (fun cz => ?_) (fun cz => ?_)
  · exact W.widen (by omega) (by omega) (lv_goto (tgt := 2038) hx hb dL_law_910 (by decide) (kk _ _ _ _ _ _ _ _ _ _ I2 hW hS (lv_sub hl [2, 3, 4, 5, 6] rfl)))
  refine lv_aload_n hx hb dL_law_898 rfl (lv_at hl 3 rfl) ?_
  refine lv_iconst (v := 0) hx hb dL_law_899 (by decide +kernel) ?_
  refine lw_gets hx hb hK hW.2.2 dL_law_900 ?_
  refine lv_toJ (z := r.toInt64) (hv cz) ?_
  refine lv_iload hx hb dL_law_901 (lv_at hl 0 rfl) ?_
  refine lv_i2l (v := r.toInt64) hx hb dL_law_903 rfl ?_
  refine W.lcmp hx hb dL_law_904 ?_
  refine lv_toI (z := 0) (cmp_eq _) ?_
  refine lv_if_eq (tgt := 910) hx hb dL_law_905 (by decide) (fun _ => ?_) (fun z => absurd rfl z)
  exact W.widen (by omega) (by omega) (lv_goto (tgt := 2038) hx hb dL_law_910 (by decide) (kk _ _ _ _ _ _ _ _ _ _ I2 hW hS (lv_sub hl [2, 3, 4, 5, 6] rfl)))

set_option maxHeartbeats 4000000 in
set_option maxRecDepth 100000 in
theorem law_digestOf {p : Program} {e : Env} {s : State} {m : MethodId} {below : List Frame} {meth : Method} {c : Code} {Q : State → Prop} (l : Launch) (hlt : l.stackTraces = false) (g : gT) {b L : Nat} {xs : Nat → Int32} {AD : Nat → Nat} {h : Nat} {X : Nat → Nat} {ou : Nat} (hx : p.tables.exec = Jvm.exec) (hb : c.code = cL_law) (hml : c.maxLocals = 9) (hts : ∀ w ∈ wsL_law, w.before #[Value.ref b] s = true) (hown : s.vm.findClass RL = some m.cls) (hK : KK g s) (hZ : ZZ s s.heap) (hX : va_X b L xs s s.heap) (hbl : b < s.heap.size) (hL : L ≤ 2048) (hD : LD g (hiA s) AD h X ou)
    {LL : Nat → ltT} {EE : Nat → evT} {LN : Nat → Nat} {lc ec : Nat} {V : Nat → Nat → Int32} {th : Int32} {v : Int64} {H : Heap} {cells slots i : Nat} {ls : Array Slot} (I : Inv LL EE LN lc ec V) (hW : LW g AD LL EE lc ec h X V th ou v H) (hS : va_S (hiA s) s.heap H []) (hi : i + 4 ≤ L) (hcl : cells + 36 ≤ room_1.cells) (hsl : slots + 264 ≤ room_1.slots) (hl : lv_has ls 9 [(4, .int (nI i)), (3, .ref ou), (2, .ref h), (1, .ref (AD 0)), (0, .ref b)])
    (kk : ∀ (LL : Nat → ltT) (EE : Nat → evT) (LN : Nat → Nat) (lc ec : Nat) (V : Nat → Nat → Int32) (th : Int32) (v : Int64) (H : Heap) (ls : Array Slot), Inv LL EE LN lc ec V → LW g AD LL EE lc ec h X V th ou v H → va_S (hiA s) s.heap H [] → lv_has ls 9 [(4, .int (nI i)), (3, .ref ou), (2, .ref h), (1, .ref (AD 0)), (0, .ref b)] → W p l e room_1 s m #[Value.ref b] below meth c H [] (cells + 36) (slots + 264) Q (F0 m 2038 ls [])) : W p l e room_1 s m #[Value.ref b] below meth c H [] cells slots Q (F0 m 913 ls []) := by
  have S : CallFix p m c cL_law 9 s #[Value.ref b] wsL_law RL := ⟨hx, hb, hml, hown, hts⟩
  obtain ⟨code, r, v2, LL2, EE2, LN2, lc2, ec2, V2, rm, hw1, ⟨r1, r2, r3, r4⟩, hw2, I2, hv⟩ := op_digestOf l hlt g AD h X LL EE LN lc ec V th ou v I (xs (nI (i + 1)).toNatClampNeg)
  refine lv_aload_n hx hb dL_law_913 rfl (lv_at hl 3 rfl) ?_
  refine lv_aload_n hx hb dL_law_914 rfl (lv_at hl 4 rfl) ?_
  refine lv_iload hx hb dL_law_915 (lv_at hl 0 rfl) ?_
  refine lv_iconst (v := nI 1) hx hb dL_law_917 (by decide +kernel) ?_
  refine lv_iadd hx hb dL_law_918 ?_
  refine lv_toI (z := nI (i + 1)) (nI_add _ _) ?_
  refine va_sld hx hb hX hbl (Nat.not_le.mpr hbl) hS (vp_in_nI (by omega) (by omega)) dL_law_919 ?_
  refine lv_aload_n hx hb dL_law_920 rfl (lv_at hl 1 rfl) ?_
  refine lw_W (h := h) (X := X) (As := [.ref (AD 0), .int (xs (nI (i + 1)).toNatClampNeg), .ref (ou)]) (rest := []) S hw1 (vx_cwSW 3 hts gL_law_L_digestOf rfl rfl rfl (by decide +kernel) ⟨Nat.le_of_ble_eq_true rfl, Nat.le_of_ble_eq_true rfl⟩) hK hZ hD hW hS rfl hl.1 rfl (Nat.le_of_ble_eq_true rfl) dL_law_921 ⟨by show _ ≤ room_1.cells; omega, by show _ ≤ room_1.slots; omega⟩ (fun H hP hPm hO hS => ?_)
  refine lv_istore (lv' := [(5, .int (code)), (4, .int (nI i)), (3, .ref (ou)), (2, .ref (h)), (1, .ref (AD 0)), (0, .ref (b))]) hx hb dL_law_924 hl (by decide) rfl (fun ls hl => ?_)
  refine lv_aload_n hx hb dL_law_926 rfl (lv_at hl 3 rfl) ?_
  refine lv_aload_n hx hb dL_law_927 rfl (lv_at hl 5 rfl) ?_
  refine lv_iload hx hb dL_law_928 (lv_at hl 1 rfl) ?_
  refine lv_iconst (v := nI 1) hx hb dL_law_930 (by decide +kernel) ?_
  refine lv_iadd hx hb dL_law_931 ?_
  refine lv_toI (z := nI (i + 1)) (nI_add _ _) ?_
  refine va_sld hx hb hX hbl (Nat.not_le.mpr hbl) hS (vp_in_nI (by omega) (by omega)) dL_law_932 ?_
  refine lw_M (As := [.int (xs (nI (i + 1)).toNatClampNeg)]) (rest := []) S hw2 (cwV 1 hts gL_law_X3_digestOf rfl r2 r3 (by decide +kernel) ⟨by show rm.frames + 1 ≤ 12; omega, by show 8 + (2 + 11) + rm.locals ≤ 436; omega⟩) hK (va_recv hK.1 hPm (ci := 3) (q0 := 0) rfl rfl) hD hP hPm hO hS rfl hl.1 rfl (Nat.le_of_ble_eq_true rfl) dL_law_933 ⟨by show _ ≤ room_1.cells; omega, by show _ ≤ room_1.slots; omega⟩ (fun H hW hS => ?_)
  refine lv_istore (lv' := [(6, .int (r)), (5, .int (code)), (4, .int (nI i)), (3, .ref (ou)), (2, .ref (h)), (1, .ref (AD 0)), (0, .ref (b))]) hx hb dL_law_936 hl (by decide) rfl (fun ls hl => ?_)
  refine lv_aload_n hx hb dL_law_938 rfl (lv_at hl 4 rfl) ?_
  refine p_V (As := []) (rest := []) S (c_X3_thrown l g h X V2 code lc2 ec2) (cwV 0 hts gL_law_X3_thrown rfl rfl rfl (by decide +kernel) ⟨Nat.le_of_ble_eq_true rfl, Nat.le_of_ble_eq_true rfl⟩) hK (va_recv hK.1 hW.2.1 (ci := 3) (q0 := 0) rfl rfl) hW.2.1 rfl hl.1 rfl (Nat.le_of_ble_eq_true rfl) dL_law_939 ⟨by show _ ≤ room_1.cells; omega, by show _ ≤ room_1.slots; omega⟩ ?_
  refine lv_iload hx hb dL_law_942 (lv_at hl 1 rfl) ?_
  refine lv_icmp_eq (tgt := 949) hx hb dL_law_944 (by decide) (fun _ => ?_) (fun z => absurd rfl z)
  refine lv_iload hx hb dL_law_949 (lv_at hl 1 rfl) ?_
  refine lv_if_ne (tgt := 966) hx hb dL_law_951 (by decide) (fun cz => ?_) (fun cz => ?_)
  · exact W.widen (by omega) (by omega) (lv_goto (tgt := 2038) hx hb dL_law_966 (by decide) (kk _ _ _ _ _ _ _ _ _ _ I2 hW hS (lv_sub hl [2, 3, 4, 5, 6] rfl)))
  refine lv_aload_n hx hb dL_law_954 rfl (lv_at hl 3 rfl) ?_
  refine lv_iconst (v := 0) hx hb dL_law_955 (by decide +kernel) ?_
  refine lw_gets hx hb hK hW.2.2 dL_law_956 ?_
  refine lv_toJ (z := r.toInt64) (hv cz) ?_
  refine lv_iload hx hb dL_law_957 (lv_at hl 0 rfl) ?_
  refine lv_i2l (v := r.toInt64) hx hb dL_law_959 rfl ?_
  refine W.lcmp hx hb dL_law_960 ?_
  refine lv_toI (z := 0) (cmp_eq _) ?_
  refine lv_if_eq (tgt := 966) hx hb dL_law_961 (by decide) (fun _ => ?_) (fun z => absurd rfl z)
  exact W.widen (by omega) (by omega) (lv_goto (tgt := 2038) hx hb dL_law_966 (by decide) (kk _ _ _ _ _ _ _ _ _ _ I2 hW hS (lv_sub hl [2, 3, 4, 5, 6] rfl)))

set_option maxHeartbeats 4000000 in
set_option maxRecDepth 100000 in
theorem law_signAt {p : Program} {e : Env} {s : State} {m : MethodId} {below : List Frame} {meth : Method} {c : Code} {Q : State → Prop} (l : Launch) (hlt : l.stackTraces = false) (g : gT) {b L : Nat} {xs : Nat → Int32} {AD : Nat → Nat} {h : Nat} {X : Nat → Nat} {ou : Nat} (hx : p.tables.exec = Jvm.exec) (hb : c.code = cL_law) (hml : c.maxLocals = 9) (hts : ∀ w ∈ wsL_law, w.before #[Value.ref b] s = true) (hown : s.vm.findClass RL = some m.cls) (hK : KK g s) (hZ : ZZ s s.heap) (hX : va_X b L xs s s.heap) (hbl : b < s.heap.size) (hL : L ≤ 2048) (hD : LD g (hiA s) AD h X ou)
    {LL : Nat → ltT} {EE : Nat → evT} {LN : Nat → Nat} {lc ec : Nat} {V : Nat → Nat → Int32} {th : Int32} {v : Int64} {H : Heap} {cells slots i : Nat} {ls : Array Slot} (I : Inv LL EE LN lc ec V) (hW : LW g AD LL EE lc ec h X V th ou v H) (hS : va_S (hiA s) s.heap H []) (hi : i + 4 ≤ L) (hcl : cells + 36 ≤ room_1.cells) (hsl : slots + 264 ≤ room_1.slots) (hl : lv_has ls 9 [(4, .int (nI i)), (3, .ref ou), (2, .ref h), (1, .ref (AD 0)), (0, .ref b)])
    (kk : ∀ (LL : Nat → ltT) (EE : Nat → evT) (LN : Nat → Nat) (lc ec : Nat) (V : Nat → Nat → Int32) (th : Int32) (v : Int64) (H : Heap) (ls : Array Slot), Inv LL EE LN lc ec V → LW g AD LL EE lc ec h X V th ou v H → va_S (hiA s) s.heap H [] → lv_has ls 9 [(4, .int (nI i)), (3, .ref ou), (2, .ref h), (1, .ref (AD 0)), (0, .ref b)] → W p l e room_1 s m #[Value.ref b] below meth c H [] (cells + 36) (slots + 264) Q (F0 m 2038 ls [])) : W p l e room_1 s m #[Value.ref b] below meth c H [] cells slots Q (F0 m 969 ls []) := by
  have S : CallFix p m c cL_law 9 s #[Value.ref b] wsL_law RL := ⟨hx, hb, hml, hown, hts⟩
  obtain ⟨code, r, v2, LL2, EE2, LN2, lc2, ec2, V2, rm, hw1, ⟨r1, r2, r3, r4⟩, hw2, I2, hv⟩ := op_signAt l hlt g AD h X LL EE LN lc ec V th ou v I (xs (nI (i + 1)).toNatClampNeg) (xs (nI (i + 2)).toNatClampNeg)
  refine lv_aload_n hx hb dL_law_969 rfl (lv_at hl 3 rfl) ?_
  refine lv_aload_n hx hb dL_law_970 rfl (lv_at hl 4 rfl) ?_
  refine lv_iload hx hb dL_law_971 (lv_at hl 0 rfl) ?_
  refine lv_iconst (v := nI 1) hx hb dL_law_973 (by decide +kernel) ?_
  refine lv_iadd hx hb dL_law_974 ?_
  refine lv_toI (z := nI (i + 1)) (nI_add _ _) ?_
  refine va_sld hx hb hX hbl (Nat.not_le.mpr hbl) hS (vp_in_nI (by omega) (by omega)) dL_law_975 ?_
  refine lv_aload_n hx hb dL_law_976 rfl (lv_at hl 4 rfl) ?_
  refine lv_iload hx hb dL_law_977 (lv_at hl 0 rfl) ?_
  refine lv_iconst (v := nI 2) hx hb dL_law_979 (by decide +kernel) ?_
  refine lv_iadd hx hb dL_law_980 ?_
  refine lv_toI (z := nI (i + 2)) (nI_add _ _) ?_
  refine va_sld hx hb hX hbl (Nat.not_le.mpr hbl) hS (vp_in_nI (by omega) (by omega)) dL_law_981 ?_
  refine lv_aload_n hx hb dL_law_982 rfl (lv_at hl 1 rfl) ?_
  refine lw_W (h := h) (X := X) (As := [.ref (AD 0), .int (xs (nI (i + 1)).toNatClampNeg), .int (xs (nI (i + 2)).toNatClampNeg), .ref (ou)]) (rest := []) S hw1 (vx_cwSW 4 hts gL_law_L_signAt rfl rfl rfl (by decide +kernel) ⟨Nat.le_of_ble_eq_true rfl, Nat.le_of_ble_eq_true rfl⟩) hK hZ hD hW hS rfl hl.1 rfl (Nat.le_of_ble_eq_true rfl) dL_law_983 ⟨by show _ ≤ room_1.cells; omega, by show _ ≤ room_1.slots; omega⟩ (fun H hP hPm hO hS => ?_)
  refine lv_istore (lv' := [(5, .int (code)), (4, .int (nI i)), (3, .ref (ou)), (2, .ref (h)), (1, .ref (AD 0)), (0, .ref (b))]) hx hb dL_law_986 hl (by decide) rfl (fun ls hl => ?_)
  refine lv_aload_n hx hb dL_law_988 rfl (lv_at hl 3 rfl) ?_
  refine lv_aload_n hx hb dL_law_989 rfl (lv_at hl 5 rfl) ?_
  refine lv_iload hx hb dL_law_990 (lv_at hl 1 rfl) ?_
  refine lv_iconst (v := nI 1) hx hb dL_law_992 (by decide +kernel) ?_
  refine lv_iadd hx hb dL_law_993 ?_
  refine lv_toI (z := nI (i + 1)) (nI_add _ _) ?_
  refine va_sld hx hb hX hbl (Nat.not_le.mpr hbl) hS (vp_in_nI (by omega) (by omega)) dL_law_994 ?_
  refine lv_aload_n hx hb dL_law_995 rfl (lv_at hl 5 rfl) ?_
  refine lv_iload hx hb dL_law_996 (lv_at hl 1 rfl) ?_
  refine lv_iconst (v := nI 2) hx hb dL_law_998 (by decide +kernel) ?_
  refine lv_iadd hx hb dL_law_999 ?_
  refine lv_toI (z := nI (i + 2)) (nI_add _ _) ?_
  refine va_sld hx hb hX hbl (Nat.not_le.mpr hbl) hS (vp_in_nI (by omega) (by omega)) dL_law_1000 ?_
  refine lw_M (As := [.int (xs (nI (i + 1)).toNatClampNeg), .int (xs (nI (i + 2)).toNatClampNeg)]) (rest := []) S hw2 (cwV 2 hts gL_law_X3_signAt rfl r2 r3 (by decide +kernel) ⟨by show rm.frames + 1 ≤ 12; omega, by show 8 + (3 + 11) + rm.locals ≤ 436; omega⟩) hK (va_recv hK.1 hPm (ci := 3) (q0 := 0) rfl rfl) hD hP hPm hO hS rfl hl.1 rfl (Nat.le_of_ble_eq_true rfl) dL_law_1001 ⟨by show _ ≤ room_1.cells; omega, by show _ ≤ room_1.slots; omega⟩ (fun H hW hS => ?_)
  refine lv_istore (lv' := [(6, .int (r)), (5, .int (code)), (4, .int (nI i)), (3, .ref (ou)), (2, .ref (h)), (1, .ref (AD 0)), (0, .ref (b))]) hx hb dL_law_1004 hl (by decide) rfl (fun ls hl => ?_)
  refine lv_aload_n hx hb dL_law_1006 rfl (lv_at hl 4 rfl) ?_
  refine p_V (As := []) (rest := []) S (c_X3_thrown l g h X V2 code lc2 ec2) (cwV 0 hts gL_law_X3_thrown rfl rfl rfl (by decide +kernel) ⟨Nat.le_of_ble_eq_true rfl, Nat.le_of_ble_eq_true rfl⟩) hK (va_recv hK.1 hW.2.1 (ci := 3) (q0 := 0) rfl rfl) hW.2.1 rfl hl.1 rfl (Nat.le_of_ble_eq_true rfl) dL_law_1007 ⟨by show _ ≤ room_1.cells; omega, by show _ ≤ room_1.slots; omega⟩ ?_
  refine lv_iload hx hb dL_law_1010 (lv_at hl 1 rfl) ?_
  refine lv_icmp_eq (tgt := 1017) hx hb dL_law_1012 (by decide) (fun _ => ?_) (fun z => absurd rfl z)
  refine lv_iload hx hb dL_law_1017 (lv_at hl 1 rfl) ?_
  refine lv_if_ne (tgt := 1034) hx hb dL_law_1019 (by decide) (fun cz => ?_) (fun cz => ?_)
  · exact W.widen (by omega) (by omega) (lv_goto (tgt := 2038) hx hb dL_law_1034 (by decide) (kk _ _ _ _ _ _ _ _ _ _ I2 hW hS (lv_sub hl [2, 3, 4, 5, 6] rfl)))
  refine lv_aload_n hx hb dL_law_1022 rfl (lv_at hl 3 rfl) ?_
  refine lv_iconst (v := 0) hx hb dL_law_1023 (by decide +kernel) ?_
  refine lw_gets hx hb hK hW.2.2 dL_law_1024 ?_
  refine lv_toJ (z := r.toInt64) (hv cz) ?_
  refine lv_iload hx hb dL_law_1025 (lv_at hl 0 rfl) ?_
  refine lv_i2l (v := r.toInt64) hx hb dL_law_1027 rfl ?_
  refine W.lcmp hx hb dL_law_1028 ?_
  refine lv_toI (z := 0) (cmp_eq _) ?_
  refine lv_if_eq (tgt := 1034) hx hb dL_law_1029 (by decide) (fun _ => ?_) (fun z => absurd rfl z)
  exact W.widen (by omega) (by omega) (lv_goto (tgt := 2038) hx hb dL_law_1034 (by decide) (kk _ _ _ _ _ _ _ _ _ _ I2 hW hS (lv_sub hl [2, 3, 4, 5, 6] rfl)))

set_option maxHeartbeats 4000000 in
set_option maxRecDepth 100000 in
theorem law_sumOf {p : Program} {e : Env} {s : State} {m : MethodId} {below : List Frame} {meth : Method} {c : Code} {Q : State → Prop} (l : Launch) (hlt : l.stackTraces = false) (g : gT) {b L : Nat} {xs : Nat → Int32} {AD : Nat → Nat} {h : Nat} {X : Nat → Nat} {ou : Nat} (hx : p.tables.exec = Jvm.exec) (hb : c.code = cL_law) (hml : c.maxLocals = 9) (hts : ∀ w ∈ wsL_law, w.before #[Value.ref b] s = true) (hown : s.vm.findClass RL = some m.cls) (hK : KK g s) (hZ : ZZ s s.heap) (hX : va_X b L xs s s.heap) (hbl : b < s.heap.size) (hL : L ≤ 2048) (hD : LD g (hiA s) AD h X ou)
    {LL : Nat → ltT} {EE : Nat → evT} {LN : Nat → Nat} {lc ec : Nat} {V : Nat → Nat → Int32} {th : Int32} {v : Int64} {H : Heap} {cells slots i : Nat} {ls : Array Slot} (I : Inv LL EE LN lc ec V) (hW : LW g AD LL EE lc ec h X V th ou v H) (hS : va_S (hiA s) s.heap H []) (hi : i + 4 ≤ L) (hcl : cells + 36 ≤ room_1.cells) (hsl : slots + 264 ≤ room_1.slots) (hl : lv_has ls 9 [(4, .int (nI i)), (3, .ref ou), (2, .ref h), (1, .ref (AD 0)), (0, .ref b)])
    (kk : ∀ (LL : Nat → ltT) (EE : Nat → evT) (LN : Nat → Nat) (lc ec : Nat) (V : Nat → Nat → Int32) (th : Int32) (v : Int64) (H : Heap) (ls : Array Slot), Inv LL EE LN lc ec V → LW g AD LL EE lc ec h X V th ou v H → va_S (hiA s) s.heap H [] → lv_has ls 9 [(4, .int (nI i)), (3, .ref ou), (2, .ref h), (1, .ref (AD 0)), (0, .ref b)] → W p l e room_1 s m #[Value.ref b] below meth c H [] (cells + 36) (slots + 264) Q (F0 m 2038 ls [])) : W p l e room_1 s m #[Value.ref b] below meth c H [] cells slots Q (F0 m 1037 ls []) := by
  have S : CallFix p m c cL_law 9 s #[Value.ref b] wsL_law RL := ⟨hx, hb, hml, hown, hts⟩
  obtain ⟨code, r, v2, LL2, EE2, LN2, lc2, ec2, V2, rm, hw1, ⟨r1, r2, r3, r4⟩, hw2, I2, hv⟩ := op_sumOf l hlt g AD h X LL EE LN lc ec V th ou v I (xs (nI (i + 1)).toNatClampNeg) (xs (nI (i + 2)).toNatClampNeg) (xs (nI (i + 3)).toNatClampNeg)
  refine lv_aload_n hx hb dL_law_1037 rfl (lv_at hl 3 rfl) ?_
  refine lv_aload_n hx hb dL_law_1038 rfl (lv_at hl 4 rfl) ?_
  refine lv_iload hx hb dL_law_1039 (lv_at hl 0 rfl) ?_
  refine lv_iconst (v := nI 1) hx hb dL_law_1041 (by decide +kernel) ?_
  refine lv_iadd hx hb dL_law_1042 ?_
  refine lv_toI (z := nI (i + 1)) (nI_add _ _) ?_
  refine va_sld hx hb hX hbl (Nat.not_le.mpr hbl) hS (vp_in_nI (by omega) (by omega)) dL_law_1043 ?_
  refine lv_aload_n hx hb dL_law_1044 rfl (lv_at hl 4 rfl) ?_
  refine lv_iload hx hb dL_law_1045 (lv_at hl 0 rfl) ?_
  refine lv_iconst (v := nI 2) hx hb dL_law_1047 (by decide +kernel) ?_
  refine lv_iadd hx hb dL_law_1048 ?_
  refine lv_toI (z := nI (i + 2)) (nI_add _ _) ?_
  refine va_sld hx hb hX hbl (Nat.not_le.mpr hbl) hS (vp_in_nI (by omega) (by omega)) dL_law_1049 ?_
  refine lv_aload_n hx hb dL_law_1050 rfl (lv_at hl 4 rfl) ?_
  refine lv_iload hx hb dL_law_1051 (lv_at hl 0 rfl) ?_
  refine lv_iconst (v := nI 3) hx hb dL_law_1053 (by decide +kernel) ?_
  refine lv_iadd hx hb dL_law_1054 ?_
  refine lv_toI (z := nI (i + 3)) (nI_add _ _) ?_
  refine va_sld hx hb hX hbl (Nat.not_le.mpr hbl) hS (vp_in_nI (by omega) (by omega)) dL_law_1055 ?_
  refine lv_aload_n hx hb dL_law_1056 rfl (lv_at hl 1 rfl) ?_
  refine lw_W (h := h) (X := X) (As := [.ref (AD 0), .int (xs (nI (i + 1)).toNatClampNeg), .int (xs (nI (i + 2)).toNatClampNeg), .int (xs (nI (i + 3)).toNatClampNeg), .ref (ou)]) (rest := []) S hw1 (vx_cwSW 5 hts gL_law_L_sumOf rfl rfl rfl (by decide +kernel) ⟨Nat.le_of_ble_eq_true rfl, Nat.le_of_ble_eq_true rfl⟩) hK hZ hD hW hS rfl hl.1 rfl (Nat.le_of_ble_eq_true rfl) dL_law_1057 ⟨by show _ ≤ room_1.cells; omega, by show _ ≤ room_1.slots; omega⟩ (fun H hP hPm hO hS => ?_)
  refine lv_istore (lv' := [(5, .int (code)), (4, .int (nI i)), (3, .ref (ou)), (2, .ref (h)), (1, .ref (AD 0)), (0, .ref (b))]) hx hb dL_law_1060 hl (by decide) rfl (fun ls hl => ?_)
  refine lv_aload_n hx hb dL_law_1062 rfl (lv_at hl 3 rfl) ?_
  refine lv_aload_n hx hb dL_law_1063 rfl (lv_at hl 5 rfl) ?_
  refine lv_iload hx hb dL_law_1064 (lv_at hl 1 rfl) ?_
  refine lv_iconst (v := nI 1) hx hb dL_law_1066 (by decide +kernel) ?_
  refine lv_iadd hx hb dL_law_1067 ?_
  refine lv_toI (z := nI (i + 1)) (nI_add _ _) ?_
  refine va_sld hx hb hX hbl (Nat.not_le.mpr hbl) hS (vp_in_nI (by omega) (by omega)) dL_law_1068 ?_
  refine lv_aload_n hx hb dL_law_1069 rfl (lv_at hl 5 rfl) ?_
  refine lv_iload hx hb dL_law_1070 (lv_at hl 1 rfl) ?_
  refine lv_iconst (v := nI 2) hx hb dL_law_1072 (by decide +kernel) ?_
  refine lv_iadd hx hb dL_law_1073 ?_
  refine lv_toI (z := nI (i + 2)) (nI_add _ _) ?_
  refine va_sld hx hb hX hbl (Nat.not_le.mpr hbl) hS (vp_in_nI (by omega) (by omega)) dL_law_1074 ?_
  refine lv_aload_n hx hb dL_law_1075 rfl (lv_at hl 5 rfl) ?_
  refine lv_iload hx hb dL_law_1076 (lv_at hl 1 rfl) ?_
  refine lv_iconst (v := nI 3) hx hb dL_law_1078 (by decide +kernel) ?_
  refine lv_iadd hx hb dL_law_1079 ?_
  refine lv_toI (z := nI (i + 3)) (nI_add _ _) ?_
  refine va_sld hx hb hX hbl (Nat.not_le.mpr hbl) hS (vp_in_nI (by omega) (by omega)) dL_law_1080 ?_
  refine lw_M (As := [.int (xs (nI (i + 1)).toNatClampNeg), .int (xs (nI (i + 2)).toNatClampNeg), .int (xs (nI (i + 3)).toNatClampNeg)]) (rest := []) S hw2 (cwV 3 hts gL_law_X3_sumOf rfl r2 r3 (by decide +kernel) ⟨by show rm.frames + 1 ≤ 12; omega, by show 8 + (4 + 11) + rm.locals ≤ 436; omega⟩) hK (va_recv hK.1 hPm (ci := 3) (q0 := 0) rfl rfl) hD hP hPm hO hS rfl hl.1 rfl (Nat.le_of_ble_eq_true rfl) dL_law_1081 ⟨by show _ ≤ room_1.cells; omega, by show _ ≤ room_1.slots; omega⟩ (fun H hW hS => ?_)
  refine lv_istore (lv' := [(6, .int (r)), (5, .int (code)), (4, .int (nI i)), (3, .ref (ou)), (2, .ref (h)), (1, .ref (AD 0)), (0, .ref (b))]) hx hb dL_law_1084 hl (by decide) rfl (fun ls hl => ?_)
  refine lv_aload_n hx hb dL_law_1086 rfl (lv_at hl 4 rfl) ?_
  refine p_V (As := []) (rest := []) S (c_X3_thrown l g h X V2 code lc2 ec2) (cwV 0 hts gL_law_X3_thrown rfl rfl rfl (by decide +kernel) ⟨Nat.le_of_ble_eq_true rfl, Nat.le_of_ble_eq_true rfl⟩) hK (va_recv hK.1 hW.2.1 (ci := 3) (q0 := 0) rfl rfl) hW.2.1 rfl hl.1 rfl (Nat.le_of_ble_eq_true rfl) dL_law_1087 ⟨by show _ ≤ room_1.cells; omega, by show _ ≤ room_1.slots; omega⟩ ?_
  refine lv_iload hx hb dL_law_1090 (lv_at hl 1 rfl) ?_
  refine lv_icmp_eq (tgt := 1097) hx hb dL_law_1092 (by decide) (fun _ => ?_) (fun z => absurd rfl z)
  refine lv_iload hx hb dL_law_1097 (lv_at hl 1 rfl) ?_
  refine lv_if_ne (tgt := 1114) hx hb dL_law_1099 (by decide) (fun cz => ?_) (fun cz => ?_)
  · exact W.widen (by omega) (by omega) (lv_goto (tgt := 2038) hx hb dL_law_1114 (by decide) (kk _ _ _ _ _ _ _ _ _ _ I2 hW hS (lv_sub hl [2, 3, 4, 5, 6] rfl)))
  refine lv_aload_n hx hb dL_law_1102 rfl (lv_at hl 3 rfl) ?_
  refine lv_iconst (v := 0) hx hb dL_law_1103 (by decide +kernel) ?_
  refine lw_gets hx hb hK hW.2.2 dL_law_1104 ?_
  refine lv_toJ (z := r.toInt64) (hv cz) ?_
  refine lv_iload hx hb dL_law_1105 (lv_at hl 0 rfl) ?_
  refine lv_i2l (v := r.toInt64) hx hb dL_law_1107 rfl ?_
  refine W.lcmp hx hb dL_law_1108 ?_
  refine lv_toI (z := 0) (cmp_eq _) ?_
  refine lv_if_eq (tgt := 1114) hx hb dL_law_1109 (by decide) (fun _ => ?_) (fun z => absurd rfl z)
  exact W.widen (by omega) (by omega) (lv_goto (tgt := 2038) hx hb dL_law_1114 (by decide) (kk _ _ _ _ _ _ _ _ _ _ I2 hW hS (lv_sub hl [2, 3, 4, 5, 6] rfl)))

set_option maxHeartbeats 4000000 in
set_option maxRecDepth 100000 in
theorem law_sameSums {p : Program} {e : Env} {s : State} {m : MethodId} {below : List Frame} {meth : Method} {c : Code} {Q : State → Prop} (l : Launch) (hlt : l.stackTraces = false) (g : gT) {b L : Nat} {xs : Nat → Int32} {AD : Nat → Nat} {h : Nat} {X : Nat → Nat} {ou : Nat} (hx : p.tables.exec = Jvm.exec) (hb : c.code = cL_law) (hml : c.maxLocals = 9) (hts : ∀ w ∈ wsL_law, w.before #[Value.ref b] s = true) (hown : s.vm.findClass RL = some m.cls) (hK : KK g s) (hZ : ZZ s s.heap) (hX : va_X b L xs s s.heap) (hbl : b < s.heap.size) (hL : L ≤ 2048) (hD : LD g (hiA s) AD h X ou)
    {LL : Nat → ltT} {EE : Nat → evT} {LN : Nat → Nat} {lc ec : Nat} {V : Nat → Nat → Int32} {th : Int32} {v : Int64} {H : Heap} {cells slots i : Nat} {ls : Array Slot} (I : Inv LL EE LN lc ec V) (hW : LW g AD LL EE lc ec h X V th ou v H) (hS : va_S (hiA s) s.heap H []) (hi : i + 4 ≤ L) (hcl : cells + 36 ≤ room_1.cells) (hsl : slots + 264 ≤ room_1.slots) (hl : lv_has ls 9 [(4, .int (nI i)), (3, .ref ou), (2, .ref h), (1, .ref (AD 0)), (0, .ref b)])
    (kk : ∀ (LL : Nat → ltT) (EE : Nat → evT) (LN : Nat → Nat) (lc ec : Nat) (V : Nat → Nat → Int32) (th : Int32) (v : Int64) (H : Heap) (ls : Array Slot), Inv LL EE LN lc ec V → LW g AD LL EE lc ec h X V th ou v H → va_S (hiA s) s.heap H [] → lv_has ls 9 [(4, .int (nI i)), (3, .ref ou), (2, .ref h), (1, .ref (AD 0)), (0, .ref b)] → W p l e room_1 s m #[Value.ref b] below meth c H [] (cells + 36) (slots + 264) Q (F0 m 2038 ls [])) : W p l e room_1 s m #[Value.ref b] below meth c H [] cells slots Q (F0 m 1117 ls []) := by
  have S : CallFix p m c cL_law 9 s #[Value.ref b] wsL_law RL := ⟨hx, hb, hml, hown, hts⟩
  obtain ⟨code, r, v2, LL2, EE2, LN2, lc2, ec2, V2, rm, hw1, ⟨r1, r2, r3, r4⟩, hw2, I2, hv⟩ := op_sameSums l hlt g AD h X LL EE LN lc ec V th ou v I (xs (nI (i + 1)).toNatClampNeg) (xs (nI (i + 2)).toNatClampNeg)
  refine lv_aload_n hx hb dL_law_1117 rfl (lv_at hl 3 rfl) ?_
  refine lv_aload_n hx hb dL_law_1118 rfl (lv_at hl 4 rfl) ?_
  refine lv_iload hx hb dL_law_1119 (lv_at hl 0 rfl) ?_
  refine lv_iconst (v := nI 1) hx hb dL_law_1121 (by decide +kernel) ?_
  refine lv_iadd hx hb dL_law_1122 ?_
  refine lv_toI (z := nI (i + 1)) (nI_add _ _) ?_
  refine va_sld hx hb hX hbl (Nat.not_le.mpr hbl) hS (vp_in_nI (by omega) (by omega)) dL_law_1123 ?_
  refine lv_aload_n hx hb dL_law_1124 rfl (lv_at hl 4 rfl) ?_
  refine lv_iload hx hb dL_law_1125 (lv_at hl 0 rfl) ?_
  refine lv_iconst (v := nI 2) hx hb dL_law_1127 (by decide +kernel) ?_
  refine lv_iadd hx hb dL_law_1128 ?_
  refine lv_toI (z := nI (i + 2)) (nI_add _ _) ?_
  refine va_sld hx hb hX hbl (Nat.not_le.mpr hbl) hS (vp_in_nI (by omega) (by omega)) dL_law_1129 ?_
  refine lv_aload_n hx hb dL_law_1130 rfl (lv_at hl 1 rfl) ?_
  refine lw_W (h := h) (X := X) (As := [.ref (AD 0), .int (xs (nI (i + 1)).toNatClampNeg), .int (xs (nI (i + 2)).toNatClampNeg), .ref (ou)]) (rest := []) S hw1 (vx_cwSW 4 hts gL_law_L_sameSums rfl rfl rfl (by decide +kernel) ⟨Nat.le_of_ble_eq_true rfl, Nat.le_of_ble_eq_true rfl⟩) hK hZ hD hW hS rfl hl.1 rfl (Nat.le_of_ble_eq_true rfl) dL_law_1131 ⟨by show _ ≤ room_1.cells; omega, by show _ ≤ room_1.slots; omega⟩ (fun H hP hPm hO hS => ?_)
  refine lv_istore (lv' := [(5, .int (code)), (4, .int (nI i)), (3, .ref (ou)), (2, .ref (h)), (1, .ref (AD 0)), (0, .ref (b))]) hx hb dL_law_1134 hl (by decide) rfl (fun ls hl => ?_)
  refine lv_aload_n hx hb dL_law_1136 rfl (lv_at hl 3 rfl) ?_
  refine lv_aload_n hx hb dL_law_1137 rfl (lv_at hl 5 rfl) ?_
  refine lv_iload hx hb dL_law_1138 (lv_at hl 1 rfl) ?_
  refine lv_iconst (v := nI 1) hx hb dL_law_1140 (by decide +kernel) ?_
  refine lv_iadd hx hb dL_law_1141 ?_
  refine lv_toI (z := nI (i + 1)) (nI_add _ _) ?_
  refine va_sld hx hb hX hbl (Nat.not_le.mpr hbl) hS (vp_in_nI (by omega) (by omega)) dL_law_1142 ?_
  refine lv_aload_n hx hb dL_law_1143 rfl (lv_at hl 5 rfl) ?_
  refine lv_iload hx hb dL_law_1144 (lv_at hl 1 rfl) ?_
  refine lv_iconst (v := nI 2) hx hb dL_law_1146 (by decide +kernel) ?_
  refine lv_iadd hx hb dL_law_1147 ?_
  refine lv_toI (z := nI (i + 2)) (nI_add _ _) ?_
  refine va_sld hx hb hX hbl (Nat.not_le.mpr hbl) hS (vp_in_nI (by omega) (by omega)) dL_law_1148 ?_
  refine lw_M (As := [.int (xs (nI (i + 1)).toNatClampNeg), .int (xs (nI (i + 2)).toNatClampNeg)]) (rest := []) S hw2 (cwV 2 hts gL_law_X3_sameSums rfl r2 r3 (by decide +kernel) ⟨by show rm.frames + 1 ≤ 12; omega, by show 8 + (3 + 11) + rm.locals ≤ 436; omega⟩) hK (va_recv hK.1 hPm (ci := 3) (q0 := 0) rfl rfl) hD hP hPm hO hS rfl hl.1 rfl (Nat.le_of_ble_eq_true rfl) dL_law_1149 ⟨by show _ ≤ room_1.cells; omega, by show _ ≤ room_1.slots; omega⟩ (fun H hW hS => ?_)
  refine lv_istore (lv' := [(6, .int (r)), (5, .int (code)), (4, .int (nI i)), (3, .ref (ou)), (2, .ref (h)), (1, .ref (AD 0)), (0, .ref (b))]) hx hb dL_law_1152 hl (by decide) rfl (fun ls hl => ?_)
  refine lv_aload_n hx hb dL_law_1154 rfl (lv_at hl 4 rfl) ?_
  refine p_V (As := []) (rest := []) S (c_X3_thrown l g h X V2 code lc2 ec2) (cwV 0 hts gL_law_X3_thrown rfl rfl rfl (by decide +kernel) ⟨Nat.le_of_ble_eq_true rfl, Nat.le_of_ble_eq_true rfl⟩) hK (va_recv hK.1 hW.2.1 (ci := 3) (q0 := 0) rfl rfl) hW.2.1 rfl hl.1 rfl (Nat.le_of_ble_eq_true rfl) dL_law_1155 ⟨by show _ ≤ room_1.cells; omega, by show _ ≤ room_1.slots; omega⟩ ?_
  refine lv_iload hx hb dL_law_1158 (lv_at hl 1 rfl) ?_
  refine lv_icmp_eq (tgt := 1165) hx hb dL_law_1160 (by decide) (fun _ => ?_) (fun z => absurd rfl z)
  refine lv_iload hx hb dL_law_1165 (lv_at hl 1 rfl) ?_
  refine lv_if_ne (tgt := 1182) hx hb dL_law_1167 (by decide) (fun cz => ?_) (fun cz => ?_)
  · exact W.widen (by omega) (by omega) (lv_goto (tgt := 2038) hx hb dL_law_1182 (by decide) (kk _ _ _ _ _ _ _ _ _ _ I2 hW hS (lv_sub hl [2, 3, 4, 5, 6] rfl)))
  refine lv_aload_n hx hb dL_law_1170 rfl (lv_at hl 3 rfl) ?_
  refine lv_iconst (v := 0) hx hb dL_law_1171 (by decide +kernel) ?_
  refine lw_gets hx hb hK hW.2.2 dL_law_1172 ?_
  refine lv_toJ (z := r.toInt64) (hv cz) ?_
  refine lv_iload hx hb dL_law_1173 (lv_at hl 0 rfl) ?_
  refine lv_i2l (v := r.toInt64) hx hb dL_law_1175 rfl ?_
  refine W.lcmp hx hb dL_law_1176 ?_
  refine lv_toI (z := 0) (cmp_eq _) ?_
  refine lv_if_eq (tgt := 1182) hx hb dL_law_1177 (by decide) (fun _ => ?_) (fun z => absurd rfl z)
  exact W.widen (by omega) (by omega) (lv_goto (tgt := 2038) hx hb dL_law_1182 (by decide) (kk _ _ _ _ _ _ _ _ _ _ I2 hW hS (lv_sub hl [2, 3, 4, 5, 6] rfl)))

set_option maxHeartbeats 4000000 in
set_option maxRecDepth 100000 in
theorem law_falseAlarms {p : Program} {e : Env} {s : State} {m : MethodId} {below : List Frame} {meth : Method} {c : Code} {Q : State → Prop} (l : Launch) (hlt : l.stackTraces = false) (g : gT) {b L : Nat} {xs : Nat → Int32} {AD : Nat → Nat} {h : Nat} {X : Nat → Nat} {ou : Nat} (hx : p.tables.exec = Jvm.exec) (hb : c.code = cL_law) (hml : c.maxLocals = 9) (hts : ∀ w ∈ wsL_law, w.before #[Value.ref b] s = true) (hown : s.vm.findClass RL = some m.cls) (hK : KK g s) (hZ : ZZ s s.heap) (hX : va_X b L xs s s.heap) (hbl : b < s.heap.size) (hL : L ≤ 2048) (hD : LD g (hiA s) AD h X ou)
    {LL : Nat → ltT} {EE : Nat → evT} {LN : Nat → Nat} {lc ec : Nat} {V : Nat → Nat → Int32} {th : Int32} {v : Int64} {H : Heap} {cells slots i : Nat} {ls : Array Slot} (I : Inv LL EE LN lc ec V) (hW : LW g AD LL EE lc ec h X V th ou v H) (hS : va_S (hiA s) s.heap H []) (hi : i + 4 ≤ L) (hcl : cells + 36 ≤ room_1.cells) (hsl : slots + 264 ≤ room_1.slots) (hl : lv_has ls 9 [(4, .int (nI i)), (3, .ref ou), (2, .ref h), (1, .ref (AD 0)), (0, .ref b)])
    (kk : ∀ (LL : Nat → ltT) (EE : Nat → evT) (LN : Nat → Nat) (lc ec : Nat) (V : Nat → Nat → Int32) (th : Int32) (v : Int64) (H : Heap) (ls : Array Slot), Inv LL EE LN lc ec V → LW g AD LL EE lc ec h X V th ou v H → va_S (hiA s) s.heap H [] → lv_has ls 9 [(4, .int (nI i)), (3, .ref ou), (2, .ref h), (1, .ref (AD 0)), (0, .ref b)] → W p l e room_1 s m #[Value.ref b] below meth c H [] (cells + 36) (slots + 264) Q (F0 m 2038 ls [])) : W p l e room_1 s m #[Value.ref b] below meth c H [] cells slots Q (F0 m 1185 ls []) := by
  have S : CallFix p m c cL_law 9 s #[Value.ref b] wsL_law RL := ⟨hx, hb, hml, hown, hts⟩
  obtain ⟨code, r, v2, LL2, EE2, LN2, lc2, ec2, V2, rm, hw1, ⟨r1, r2, r3, r4⟩, hw2, I2, hv⟩ := op_falseAlarms l hlt g AD h X LL EE LN lc ec V th ou v I (xs (nI (i + 1)).toNatClampNeg) (xs (nI (i + 2)).toNatClampNeg)
  refine lv_aload_n hx hb dL_law_1185 rfl (lv_at hl 3 rfl) ?_
  refine lv_aload_n hx hb dL_law_1186 rfl (lv_at hl 4 rfl) ?_
  refine lv_iload hx hb dL_law_1187 (lv_at hl 0 rfl) ?_
  refine lv_iconst (v := nI 1) hx hb dL_law_1189 (by decide +kernel) ?_
  refine lv_iadd hx hb dL_law_1190 ?_
  refine lv_toI (z := nI (i + 1)) (nI_add _ _) ?_
  refine va_sld hx hb hX hbl (Nat.not_le.mpr hbl) hS (vp_in_nI (by omega) (by omega)) dL_law_1191 ?_
  refine lv_aload_n hx hb dL_law_1192 rfl (lv_at hl 4 rfl) ?_
  refine lv_iload hx hb dL_law_1193 (lv_at hl 0 rfl) ?_
  refine lv_iconst (v := nI 2) hx hb dL_law_1195 (by decide +kernel) ?_
  refine lv_iadd hx hb dL_law_1196 ?_
  refine lv_toI (z := nI (i + 2)) (nI_add _ _) ?_
  refine va_sld hx hb hX hbl (Nat.not_le.mpr hbl) hS (vp_in_nI (by omega) (by omega)) dL_law_1197 ?_
  refine lv_aload_n hx hb dL_law_1198 rfl (lv_at hl 1 rfl) ?_
  refine lw_W (h := h) (X := X) (As := [.ref (AD 0), .int (xs (nI (i + 1)).toNatClampNeg), .int (xs (nI (i + 2)).toNatClampNeg), .ref (ou)]) (rest := []) S hw1 (vx_cwSW 4 hts gL_law_L_falseAlarms rfl rfl rfl (by decide +kernel) ⟨Nat.le_of_ble_eq_true rfl, Nat.le_of_ble_eq_true rfl⟩) hK hZ hD hW hS rfl hl.1 rfl (Nat.le_of_ble_eq_true rfl) dL_law_1199 ⟨by show _ ≤ room_1.cells; omega, by show _ ≤ room_1.slots; omega⟩ (fun H hP hPm hO hS => ?_)
  refine lv_istore (lv' := [(5, .int (code)), (4, .int (nI i)), (3, .ref (ou)), (2, .ref (h)), (1, .ref (AD 0)), (0, .ref (b))]) hx hb dL_law_1202 hl (by decide) rfl (fun ls hl => ?_)
  refine lv_aload_n hx hb dL_law_1204 rfl (lv_at hl 3 rfl) ?_
  refine lv_aload_n hx hb dL_law_1205 rfl (lv_at hl 5 rfl) ?_
  refine lv_iload hx hb dL_law_1206 (lv_at hl 1 rfl) ?_
  refine lv_iconst (v := nI 1) hx hb dL_law_1208 (by decide +kernel) ?_
  refine lv_iadd hx hb dL_law_1209 ?_
  refine lv_toI (z := nI (i + 1)) (nI_add _ _) ?_
  refine va_sld hx hb hX hbl (Nat.not_le.mpr hbl) hS (vp_in_nI (by omega) (by omega)) dL_law_1210 ?_
  refine lv_aload_n hx hb dL_law_1211 rfl (lv_at hl 5 rfl) ?_
  refine lv_iload hx hb dL_law_1212 (lv_at hl 1 rfl) ?_
  refine lv_iconst (v := nI 2) hx hb dL_law_1214 (by decide +kernel) ?_
  refine lv_iadd hx hb dL_law_1215 ?_
  refine lv_toI (z := nI (i + 2)) (nI_add _ _) ?_
  refine va_sld hx hb hX hbl (Nat.not_le.mpr hbl) hS (vp_in_nI (by omega) (by omega)) dL_law_1216 ?_
  refine lw_M (As := [.int (xs (nI (i + 1)).toNatClampNeg), .int (xs (nI (i + 2)).toNatClampNeg)]) (rest := []) S hw2 (cwV 2 hts gL_law_X3_falseAlarms rfl r2 r3 (by decide +kernel) ⟨by show rm.frames + 1 ≤ 12; omega, by show 8 + (3 + 11) + rm.locals ≤ 436; omega⟩) hK (va_recv hK.1 hPm (ci := 3) (q0 := 0) rfl rfl) hD hP hPm hO hS rfl hl.1 rfl (Nat.le_of_ble_eq_true rfl) dL_law_1217 ⟨by show _ ≤ room_1.cells; omega, by show _ ≤ room_1.slots; omega⟩ (fun H hW hS => ?_)
  refine lv_istore (lv' := [(6, .int (r)), (5, .int (code)), (4, .int (nI i)), (3, .ref (ou)), (2, .ref (h)), (1, .ref (AD 0)), (0, .ref (b))]) hx hb dL_law_1220 hl (by decide) rfl (fun ls hl => ?_)
  refine lv_aload_n hx hb dL_law_1222 rfl (lv_at hl 4 rfl) ?_
  refine p_V (As := []) (rest := []) S (c_X3_thrown l g h X V2 code lc2 ec2) (cwV 0 hts gL_law_X3_thrown rfl rfl rfl (by decide +kernel) ⟨Nat.le_of_ble_eq_true rfl, Nat.le_of_ble_eq_true rfl⟩) hK (va_recv hK.1 hW.2.1 (ci := 3) (q0 := 0) rfl rfl) hW.2.1 rfl hl.1 rfl (Nat.le_of_ble_eq_true rfl) dL_law_1223 ⟨by show _ ≤ room_1.cells; omega, by show _ ≤ room_1.slots; omega⟩ ?_
  refine lv_iload hx hb dL_law_1226 (lv_at hl 1 rfl) ?_
  refine lv_icmp_eq (tgt := 1233) hx hb dL_law_1228 (by decide) (fun _ => ?_) (fun z => absurd rfl z)
  refine lv_iload hx hb dL_law_1233 (lv_at hl 1 rfl) ?_
  refine lv_if_ne (tgt := 1250) hx hb dL_law_1235 (by decide) (fun cz => ?_) (fun cz => ?_)
  · exact W.widen (by omega) (by omega) (lv_goto (tgt := 2038) hx hb dL_law_1250 (by decide) (kk _ _ _ _ _ _ _ _ _ _ I2 hW hS (lv_sub hl [2, 3, 4, 5, 6] rfl)))
  refine lv_aload_n hx hb dL_law_1238 rfl (lv_at hl 3 rfl) ?_
  refine lv_iconst (v := 0) hx hb dL_law_1239 (by decide +kernel) ?_
  refine lw_gets hx hb hK hW.2.2 dL_law_1240 ?_
  refine lv_toJ (z := r.toInt64) (hv cz) ?_
  refine lv_iload hx hb dL_law_1241 (lv_at hl 0 rfl) ?_
  refine lv_i2l (v := r.toInt64) hx hb dL_law_1243 rfl ?_
  refine W.lcmp hx hb dL_law_1244 ?_
  refine lv_toI (z := 0) (cmp_eq _) ?_
  refine lv_if_eq (tgt := 1250) hx hb dL_law_1245 (by decide) (fun _ => ?_) (fun z => absurd rfl z)
  exact W.widen (by omega) (by omega) (lv_goto (tgt := 2038) hx hb dL_law_1250 (by decide) (kk _ _ _ _ _ _ _ _ _ _ I2 hW hS (lv_sub hl [2, 3, 4, 5, 6] rfl)))

set_option maxHeartbeats 4000000 in
set_option maxRecDepth 100000 in
theorem law_firstOf {p : Program} {e : Env} {s : State} {m : MethodId} {below : List Frame} {meth : Method} {c : Code} {Q : State → Prop} (l : Launch) (hlt : l.stackTraces = false) (g : gT) {b L : Nat} {xs : Nat → Int32} {AD : Nat → Nat} {h : Nat} {X : Nat → Nat} {ou : Nat} (hx : p.tables.exec = Jvm.exec) (hb : c.code = cL_law) (hml : c.maxLocals = 9) (hts : ∀ w ∈ wsL_law, w.before #[Value.ref b] s = true) (hown : s.vm.findClass RL = some m.cls) (hK : KK g s) (hZ : ZZ s s.heap) (hX : va_X b L xs s s.heap) (hbl : b < s.heap.size) (hL : L ≤ 2048) (hD : LD g (hiA s) AD h X ou)
    {LL : Nat → ltT} {EE : Nat → evT} {LN : Nat → Nat} {lc ec : Nat} {V : Nat → Nat → Int32} {th : Int32} {v : Int64} {H : Heap} {cells slots i : Nat} {ls : Array Slot} (I : Inv LL EE LN lc ec V) (hW : LW g AD LL EE lc ec h X V th ou v H) (hS : va_S (hiA s) s.heap H []) (hi : i + 4 ≤ L) (hcl : cells + 36 ≤ room_1.cells) (hsl : slots + 264 ≤ room_1.slots) (hl : lv_has ls 9 [(4, .int (nI i)), (3, .ref ou), (2, .ref h), (1, .ref (AD 0)), (0, .ref b)])
    (kk : ∀ (LL : Nat → ltT) (EE : Nat → evT) (LN : Nat → Nat) (lc ec : Nat) (V : Nat → Nat → Int32) (th : Int32) (v : Int64) (H : Heap) (ls : Array Slot), Inv LL EE LN lc ec V → LW g AD LL EE lc ec h X V th ou v H → va_S (hiA s) s.heap H [] → lv_has ls 9 [(4, .int (nI i)), (3, .ref ou), (2, .ref h), (1, .ref (AD 0)), (0, .ref b)] → W p l e room_1 s m #[Value.ref b] below meth c H [] (cells + 36) (slots + 264) Q (F0 m 2038 ls [])) : W p l e room_1 s m #[Value.ref b] below meth c H [] cells slots Q (F0 m 1253 ls []) := by
  have S : CallFix p m c cL_law 9 s #[Value.ref b] wsL_law RL := ⟨hx, hb, hml, hown, hts⟩
  obtain ⟨code, r, v2, LL2, EE2, LN2, lc2, ec2, V2, rm, hw1, ⟨r1, r2, r3, r4⟩, hw2, I2, hv⟩ := op_firstOf l hlt g AD h X LL EE LN lc ec V th ou v I (xs (nI (i + 1)).toNatClampNeg) (xs (nI (i + 2)).toNatClampNeg)
  refine lv_aload_n hx hb dL_law_1253 rfl (lv_at hl 3 rfl) ?_
  refine lv_aload_n hx hb dL_law_1254 rfl (lv_at hl 4 rfl) ?_
  refine lv_iload hx hb dL_law_1255 (lv_at hl 0 rfl) ?_
  refine lv_iconst (v := nI 1) hx hb dL_law_1257 (by decide +kernel) ?_
  refine lv_iadd hx hb dL_law_1258 ?_
  refine lv_toI (z := nI (i + 1)) (nI_add _ _) ?_
  refine va_sld hx hb hX hbl (Nat.not_le.mpr hbl) hS (vp_in_nI (by omega) (by omega)) dL_law_1259 ?_
  refine lv_aload_n hx hb dL_law_1260 rfl (lv_at hl 4 rfl) ?_
  refine lv_iload hx hb dL_law_1261 (lv_at hl 0 rfl) ?_
  refine lv_iconst (v := nI 2) hx hb dL_law_1263 (by decide +kernel) ?_
  refine lv_iadd hx hb dL_law_1264 ?_
  refine lv_toI (z := nI (i + 2)) (nI_add _ _) ?_
  refine va_sld hx hb hX hbl (Nat.not_le.mpr hbl) hS (vp_in_nI (by omega) (by omega)) dL_law_1265 ?_
  refine lv_aload_n hx hb dL_law_1266 rfl (lv_at hl 1 rfl) ?_
  refine lw_W (h := h) (X := X) (As := [.ref (AD 0), .int (xs (nI (i + 1)).toNatClampNeg), .int (xs (nI (i + 2)).toNatClampNeg), .ref (ou)]) (rest := []) S hw1 (vx_cwSW 4 hts gL_law_L_firstOf rfl rfl rfl (by decide +kernel) ⟨Nat.le_of_ble_eq_true rfl, Nat.le_of_ble_eq_true rfl⟩) hK hZ hD hW hS rfl hl.1 rfl (Nat.le_of_ble_eq_true rfl) dL_law_1267 ⟨by show _ ≤ room_1.cells; omega, by show _ ≤ room_1.slots; omega⟩ (fun H hP hPm hO hS => ?_)
  refine lv_istore (lv' := [(5, .int (code)), (4, .int (nI i)), (3, .ref (ou)), (2, .ref (h)), (1, .ref (AD 0)), (0, .ref (b))]) hx hb dL_law_1270 hl (by decide) rfl (fun ls hl => ?_)
  refine lv_aload_n hx hb dL_law_1272 rfl (lv_at hl 3 rfl) ?_
  refine lv_aload_n hx hb dL_law_1273 rfl (lv_at hl 5 rfl) ?_
  refine lv_iload hx hb dL_law_1274 (lv_at hl 1 rfl) ?_
  refine lv_iconst (v := nI 1) hx hb dL_law_1276 (by decide +kernel) ?_
  refine lv_iadd hx hb dL_law_1277 ?_
  refine lv_toI (z := nI (i + 1)) (nI_add _ _) ?_
  refine va_sld hx hb hX hbl (Nat.not_le.mpr hbl) hS (vp_in_nI (by omega) (by omega)) dL_law_1278 ?_
  refine lv_aload_n hx hb dL_law_1279 rfl (lv_at hl 5 rfl) ?_
  refine lv_iload hx hb dL_law_1280 (lv_at hl 1 rfl) ?_
  refine lv_iconst (v := nI 2) hx hb dL_law_1282 (by decide +kernel) ?_
  refine lv_iadd hx hb dL_law_1283 ?_
  refine lv_toI (z := nI (i + 2)) (nI_add _ _) ?_
  refine va_sld hx hb hX hbl (Nat.not_le.mpr hbl) hS (vp_in_nI (by omega) (by omega)) dL_law_1284 ?_
  refine lw_M (As := [.int (xs (nI (i + 1)).toNatClampNeg), .int (xs (nI (i + 2)).toNatClampNeg)]) (rest := []) S hw2 (cwV 2 hts gL_law_X3_firstOf rfl r2 r3 (by decide +kernel) ⟨by show rm.frames + 1 ≤ 12; omega, by show 8 + (3 + 11) + rm.locals ≤ 436; omega⟩) hK (va_recv hK.1 hPm (ci := 3) (q0 := 0) rfl rfl) hD hP hPm hO hS rfl hl.1 rfl (Nat.le_of_ble_eq_true rfl) dL_law_1285 ⟨by show _ ≤ room_1.cells; omega, by show _ ≤ room_1.slots; omega⟩ (fun H hW hS => ?_)
  refine lv_istore (lv' := [(6, .int (r)), (5, .int (code)), (4, .int (nI i)), (3, .ref (ou)), (2, .ref (h)), (1, .ref (AD 0)), (0, .ref (b))]) hx hb dL_law_1288 hl (by decide) rfl (fun ls hl => ?_)
  refine lv_aload_n hx hb dL_law_1290 rfl (lv_at hl 4 rfl) ?_
  refine p_V (As := []) (rest := []) S (c_X3_thrown l g h X V2 code lc2 ec2) (cwV 0 hts gL_law_X3_thrown rfl rfl rfl (by decide +kernel) ⟨Nat.le_of_ble_eq_true rfl, Nat.le_of_ble_eq_true rfl⟩) hK (va_recv hK.1 hW.2.1 (ci := 3) (q0 := 0) rfl rfl) hW.2.1 rfl hl.1 rfl (Nat.le_of_ble_eq_true rfl) dL_law_1291 ⟨by show _ ≤ room_1.cells; omega, by show _ ≤ room_1.slots; omega⟩ ?_
  refine lv_iload hx hb dL_law_1294 (lv_at hl 1 rfl) ?_
  refine lv_icmp_eq (tgt := 1301) hx hb dL_law_1296 (by decide) (fun _ => ?_) (fun z => absurd rfl z)
  refine lv_iload hx hb dL_law_1301 (lv_at hl 1 rfl) ?_
  refine lv_if_ne (tgt := 1318) hx hb dL_law_1303 (by decide) (fun cz => ?_) (fun cz => ?_)
  · exact W.widen (by omega) (by omega) (lv_goto (tgt := 2038) hx hb dL_law_1318 (by decide) (kk _ _ _ _ _ _ _ _ _ _ I2 hW hS (lv_sub hl [2, 3, 4, 5, 6] rfl)))
  refine lv_aload_n hx hb dL_law_1306 rfl (lv_at hl 3 rfl) ?_
  refine lv_iconst (v := 0) hx hb dL_law_1307 (by decide +kernel) ?_
  refine lw_gets hx hb hK hW.2.2 dL_law_1308 ?_
  refine lv_toJ (z := r.toInt64) (hv cz) ?_
  refine lv_iload hx hb dL_law_1309 (lv_at hl 0 rfl) ?_
  refine lv_i2l (v := r.toInt64) hx hb dL_law_1311 rfl ?_
  refine W.lcmp hx hb dL_law_1312 ?_
  refine lv_toI (z := 0) (cmp_eq _) ?_
  refine lv_if_eq (tgt := 1318) hx hb dL_law_1313 (by decide) (fun _ => ?_) (fun z => absurd rfl z)
  exact W.widen (by omega) (by omega) (lv_goto (tgt := 2038) hx hb dL_law_1318 (by decide) (kk _ _ _ _ _ _ _ _ _ _ I2 hW hS (lv_sub hl [2, 3, 4, 5, 6] rfl)))

set_option maxHeartbeats 4000000 in
set_option maxRecDepth 100000 in
theorem law_letterIn {p : Program} {e : Env} {s : State} {m : MethodId} {below : List Frame} {meth : Method} {c : Code} {Q : State → Prop} (l : Launch) (hlt : l.stackTraces = false) (g : gT) {b L : Nat} {xs : Nat → Int32} {AD : Nat → Nat} {h : Nat} {X : Nat → Nat} {ou : Nat} (hx : p.tables.exec = Jvm.exec) (hb : c.code = cL_law) (hml : c.maxLocals = 9) (hts : ∀ w ∈ wsL_law, w.before #[Value.ref b] s = true) (hown : s.vm.findClass RL = some m.cls) (hK : KK g s) (hZ : ZZ s s.heap) (hX : va_X b L xs s s.heap) (hbl : b < s.heap.size) (hL : L ≤ 2048) (hD : LD g (hiA s) AD h X ou)
    {LL : Nat → ltT} {EE : Nat → evT} {LN : Nat → Nat} {lc ec : Nat} {V : Nat → Nat → Int32} {th : Int32} {v : Int64} {H : Heap} {cells slots i : Nat} {ls : Array Slot} (I : Inv LL EE LN lc ec V) (hW : LW g AD LL EE lc ec h X V th ou v H) (hS : va_S (hiA s) s.heap H []) (hi : i + 4 ≤ L) (hcl : cells + 36 ≤ room_1.cells) (hsl : slots + 264 ≤ room_1.slots) (hl : lv_has ls 9 [(4, .int (nI i)), (3, .ref ou), (2, .ref h), (1, .ref (AD 0)), (0, .ref b)])
    (kk : ∀ (LL : Nat → ltT) (EE : Nat → evT) (LN : Nat → Nat) (lc ec : Nat) (V : Nat → Nat → Int32) (th : Int32) (v : Int64) (H : Heap) (ls : Array Slot), Inv LL EE LN lc ec V → LW g AD LL EE lc ec h X V th ou v H → va_S (hiA s) s.heap H [] → lv_has ls 9 [(4, .int (nI i)), (3, .ref ou), (2, .ref h), (1, .ref (AD 0)), (0, .ref b)] → W p l e room_1 s m #[Value.ref b] below meth c H [] (cells + 36) (slots + 264) Q (F0 m 2038 ls [])) : W p l e room_1 s m #[Value.ref b] below meth c H [] cells slots Q (F0 m 1347 ls []) := by
  have S : CallFix p m c cL_law 9 s #[Value.ref b] wsL_law RL := ⟨hx, hb, hml, hown, hts⟩
  obtain ⟨code, r, v2, LL2, EE2, LN2, lc2, ec2, V2, rm, hw1, ⟨r1, r2, r3, r4⟩, hw2, I2, hv⟩ := op_letterIn l hlt g AD h X LL EE LN lc ec V th ou v I (xs (nI (i + 1)).toNatClampNeg)
  refine lv_aload_n hx hb dL_law_1347 rfl (lv_at hl 3 rfl) ?_
  refine lv_aload_n hx hb dL_law_1348 rfl (lv_at hl 4 rfl) ?_
  refine lv_iload hx hb dL_law_1349 (lv_at hl 0 rfl) ?_
  refine lv_iconst (v := nI 1) hx hb dL_law_1351 (by decide +kernel) ?_
  refine lv_iadd hx hb dL_law_1352 ?_
  refine lv_toI (z := nI (i + 1)) (nI_add _ _) ?_
  refine va_sld hx hb hX hbl (Nat.not_le.mpr hbl) hS (vp_in_nI (by omega) (by omega)) dL_law_1353 ?_
  refine lv_aload_n hx hb dL_law_1354 rfl (lv_at hl 1 rfl) ?_
  refine lw_W (h := h) (X := X) (As := [.ref (AD 0), .int (xs (nI (i + 1)).toNatClampNeg), .ref (ou)]) (rest := []) S hw1 (vx_cwSW 3 hts gL_law_L_letterIn rfl rfl rfl (by decide +kernel) ⟨Nat.le_of_ble_eq_true rfl, Nat.le_of_ble_eq_true rfl⟩) hK hZ hD hW hS rfl hl.1 rfl (Nat.le_of_ble_eq_true rfl) dL_law_1355 ⟨by show _ ≤ room_1.cells; omega, by show _ ≤ room_1.slots; omega⟩ (fun H hP hPm hO hS => ?_)
  refine lv_istore (lv' := [(5, .int (code)), (4, .int (nI i)), (3, .ref (ou)), (2, .ref (h)), (1, .ref (AD 0)), (0, .ref (b))]) hx hb dL_law_1358 hl (by decide) rfl (fun ls hl => ?_)
  refine lv_aload_n hx hb dL_law_1360 rfl (lv_at hl 3 rfl) ?_
  refine lv_aload_n hx hb dL_law_1361 rfl (lv_at hl 5 rfl) ?_
  refine lv_iload hx hb dL_law_1362 (lv_at hl 1 rfl) ?_
  refine lv_iconst (v := nI 1) hx hb dL_law_1364 (by decide +kernel) ?_
  refine lv_iadd hx hb dL_law_1365 ?_
  refine lv_toI (z := nI (i + 1)) (nI_add _ _) ?_
  refine va_sld hx hb hX hbl (Nat.not_le.mpr hbl) hS (vp_in_nI (by omega) (by omega)) dL_law_1366 ?_
  refine lw_M (As := [.int (xs (nI (i + 1)).toNatClampNeg)]) (rest := []) S hw2 (cwV 1 hts gL_law_X3_letterIn rfl r2 r3 (by decide +kernel) ⟨by show rm.frames + 1 ≤ 12; omega, by show 8 + (2 + 11) + rm.locals ≤ 436; omega⟩) hK (va_recv hK.1 hPm (ci := 3) (q0 := 0) rfl rfl) hD hP hPm hO hS rfl hl.1 rfl (Nat.le_of_ble_eq_true rfl) dL_law_1367 ⟨by show _ ≤ room_1.cells; omega, by show _ ≤ room_1.slots; omega⟩ (fun H hW hS => ?_)
  refine lv_istore (lv' := [(6, .int (r)), (5, .int (code)), (4, .int (nI i)), (3, .ref (ou)), (2, .ref (h)), (1, .ref (AD 0)), (0, .ref (b))]) hx hb dL_law_1370 hl (by decide) rfl (fun ls hl => ?_)
  refine lv_aload_n hx hb dL_law_1372 rfl (lv_at hl 4 rfl) ?_
  refine p_V (As := []) (rest := []) S (c_X3_thrown l g h X V2 code lc2 ec2) (cwV 0 hts gL_law_X3_thrown rfl rfl rfl (by decide +kernel) ⟨Nat.le_of_ble_eq_true rfl, Nat.le_of_ble_eq_true rfl⟩) hK (va_recv hK.1 hW.2.1 (ci := 3) (q0 := 0) rfl rfl) hW.2.1 rfl hl.1 rfl (Nat.le_of_ble_eq_true rfl) dL_law_1373 ⟨by show _ ≤ room_1.cells; omega, by show _ ≤ room_1.slots; omega⟩ ?_
  refine lv_iload hx hb dL_law_1376 (lv_at hl 1 rfl) ?_
  refine lv_icmp_eq (tgt := 1383) hx hb dL_law_1378 (by decide) (fun _ => ?_) (fun z => absurd rfl z)
  refine lv_iload hx hb dL_law_1383 (lv_at hl 1 rfl) ?_
  refine lv_if_ne (tgt := 1400) hx hb dL_law_1385 (by decide) (fun cz => ?_) (fun cz => ?_)
  · exact W.widen (by omega) (by omega) (lv_goto (tgt := 2038) hx hb dL_law_1400 (by decide) (kk _ _ _ _ _ _ _ _ _ _ I2 hW hS (lv_sub hl [2, 3, 4, 5, 6] rfl)))
  refine lv_aload_n hx hb dL_law_1388 rfl (lv_at hl 3 rfl) ?_
  refine lv_iconst (v := 0) hx hb dL_law_1389 (by decide +kernel) ?_
  refine lw_gets hx hb hK hW.2.2 dL_law_1390 ?_
  refine lv_toJ (z := r.toInt64) (hv cz) ?_
  refine lv_iload hx hb dL_law_1391 (lv_at hl 0 rfl) ?_
  refine lv_i2l (v := r.toInt64) hx hb dL_law_1393 rfl ?_
  refine W.lcmp hx hb dL_law_1394 ?_
  refine lv_toI (z := 0) (cmp_eq _) ?_
  refine lv_if_eq (tgt := 1400) hx hb dL_law_1395 (by decide) (fun _ => ?_) (fun z => absurd rfl z)
  exact W.widen (by omega) (by omega) (lv_goto (tgt := 2038) hx hb dL_law_1400 (by decide) (kk _ _ _ _ _ _ _ _ _ _ I2 hW hS (lv_sub hl [2, 3, 4, 5, 6] rfl)))

set_option maxHeartbeats 4000000 in
set_option maxRecDepth 100000 in
theorem law_digestIn {p : Program} {e : Env} {s : State} {m : MethodId} {below : List Frame} {meth : Method} {c : Code} {Q : State → Prop} (l : Launch) (hlt : l.stackTraces = false) (g : gT) {b L : Nat} {xs : Nat → Int32} {AD : Nat → Nat} {h : Nat} {X : Nat → Nat} {ou : Nat} (hx : p.tables.exec = Jvm.exec) (hb : c.code = cL_law) (hml : c.maxLocals = 9) (hts : ∀ w ∈ wsL_law, w.before #[Value.ref b] s = true) (hown : s.vm.findClass RL = some m.cls) (hK : KK g s) (hZ : ZZ s s.heap) (hX : va_X b L xs s s.heap) (hbl : b < s.heap.size) (hL : L ≤ 2048) (hD : LD g (hiA s) AD h X ou)
    {LL : Nat → ltT} {EE : Nat → evT} {LN : Nat → Nat} {lc ec : Nat} {V : Nat → Nat → Int32} {th : Int32} {v : Int64} {H : Heap} {cells slots i : Nat} {ls : Array Slot} (I : Inv LL EE LN lc ec V) (hW : LW g AD LL EE lc ec h X V th ou v H) (hS : va_S (hiA s) s.heap H []) (hi : i + 4 ≤ L) (hcl : cells + 36 ≤ room_1.cells) (hsl : slots + 264 ≤ room_1.slots) (hl : lv_has ls 9 [(4, .int (nI i)), (3, .ref ou), (2, .ref h), (1, .ref (AD 0)), (0, .ref b)])
    (kk : ∀ (LL : Nat → ltT) (EE : Nat → evT) (LN : Nat → Nat) (lc ec : Nat) (V : Nat → Nat → Int32) (th : Int32) (v : Int64) (H : Heap) (ls : Array Slot), Inv LL EE LN lc ec V → LW g AD LL EE lc ec h X V th ou v H → va_S (hiA s) s.heap H [] → lv_has ls 9 [(4, .int (nI i)), (3, .ref ou), (2, .ref h), (1, .ref (AD 0)), (0, .ref b)] → W p l e room_1 s m #[Value.ref b] below meth c H [] (cells + 36) (slots + 264) Q (F0 m 2038 ls [])) : W p l e room_1 s m #[Value.ref b] below meth c H [] cells slots Q (F0 m 1403 ls []) := by
  have S : CallFix p m c cL_law 9 s #[Value.ref b] wsL_law RL := ⟨hx, hb, hml, hown, hts⟩
  obtain ⟨code, r, v2, LL2, EE2, LN2, lc2, ec2, V2, rm, hw1, ⟨r1, r2, r3, r4⟩, hw2, I2, hv⟩ := op_digestIn l hlt g AD h X LL EE LN lc ec V th ou v I (xs (nI (i + 1)).toNatClampNeg)
  refine lv_aload_n hx hb dL_law_1403 rfl (lv_at hl 3 rfl) ?_
  refine lv_aload_n hx hb dL_law_1404 rfl (lv_at hl 4 rfl) ?_
  refine lv_iload hx hb dL_law_1405 (lv_at hl 0 rfl) ?_
  refine lv_iconst (v := nI 1) hx hb dL_law_1407 (by decide +kernel) ?_
  refine lv_iadd hx hb dL_law_1408 ?_
  refine lv_toI (z := nI (i + 1)) (nI_add _ _) ?_
  refine va_sld hx hb hX hbl (Nat.not_le.mpr hbl) hS (vp_in_nI (by omega) (by omega)) dL_law_1409 ?_
  refine lv_aload_n hx hb dL_law_1410 rfl (lv_at hl 1 rfl) ?_
  refine lw_W (h := h) (X := X) (As := [.ref (AD 0), .int (xs (nI (i + 1)).toNatClampNeg), .ref (ou)]) (rest := []) S hw1 (vx_cwSW 3 hts gL_law_L_digestIn rfl rfl rfl (by decide +kernel) ⟨Nat.le_of_ble_eq_true rfl, Nat.le_of_ble_eq_true rfl⟩) hK hZ hD hW hS rfl hl.1 rfl (Nat.le_of_ble_eq_true rfl) dL_law_1411 ⟨by show _ ≤ room_1.cells; omega, by show _ ≤ room_1.slots; omega⟩ (fun H hP hPm hO hS => ?_)
  refine lv_istore (lv' := [(5, .int (code)), (4, .int (nI i)), (3, .ref (ou)), (2, .ref (h)), (1, .ref (AD 0)), (0, .ref (b))]) hx hb dL_law_1414 hl (by decide) rfl (fun ls hl => ?_)
  refine lv_aload_n hx hb dL_law_1416 rfl (lv_at hl 3 rfl) ?_
  refine lv_aload_n hx hb dL_law_1417 rfl (lv_at hl 5 rfl) ?_
  refine lv_iload hx hb dL_law_1418 (lv_at hl 1 rfl) ?_
  refine lv_iconst (v := nI 1) hx hb dL_law_1420 (by decide +kernel) ?_
  refine lv_iadd hx hb dL_law_1421 ?_
  refine lv_toI (z := nI (i + 1)) (nI_add _ _) ?_
  refine va_sld hx hb hX hbl (Nat.not_le.mpr hbl) hS (vp_in_nI (by omega) (by omega)) dL_law_1422 ?_
  refine lw_M (As := [.int (xs (nI (i + 1)).toNatClampNeg)]) (rest := []) S hw2 (cwV 1 hts gL_law_X3_digestIn rfl r2 r3 (by decide +kernel) ⟨by show rm.frames + 1 ≤ 12; omega, by show 8 + (2 + 11) + rm.locals ≤ 436; omega⟩) hK (va_recv hK.1 hPm (ci := 3) (q0 := 0) rfl rfl) hD hP hPm hO hS rfl hl.1 rfl (Nat.le_of_ble_eq_true rfl) dL_law_1423 ⟨by show _ ≤ room_1.cells; omega, by show _ ≤ room_1.slots; omega⟩ (fun H hW hS => ?_)
  refine lv_istore (lv' := [(6, .int (r)), (5, .int (code)), (4, .int (nI i)), (3, .ref (ou)), (2, .ref (h)), (1, .ref (AD 0)), (0, .ref (b))]) hx hb dL_law_1426 hl (by decide) rfl (fun ls hl => ?_)
  refine lv_aload_n hx hb dL_law_1428 rfl (lv_at hl 4 rfl) ?_
  refine p_V (As := []) (rest := []) S (c_X3_thrown l g h X V2 code lc2 ec2) (cwV 0 hts gL_law_X3_thrown rfl rfl rfl (by decide +kernel) ⟨Nat.le_of_ble_eq_true rfl, Nat.le_of_ble_eq_true rfl⟩) hK (va_recv hK.1 hW.2.1 (ci := 3) (q0 := 0) rfl rfl) hW.2.1 rfl hl.1 rfl (Nat.le_of_ble_eq_true rfl) dL_law_1429 ⟨by show _ ≤ room_1.cells; omega, by show _ ≤ room_1.slots; omega⟩ ?_
  refine lv_iload hx hb dL_law_1432 (lv_at hl 1 rfl) ?_
  refine lv_icmp_eq (tgt := 1439) hx hb dL_law_1434 (by decide) (fun _ => ?_) (fun z => absurd rfl z)
  refine lv_iload hx hb dL_law_1439 (lv_at hl 1 rfl) ?_
  refine lv_if_ne (tgt := 1456) hx hb dL_law_1441 (by decide) (fun cz => ?_) (fun cz => ?_)
  · exact W.widen (by omega) (by omega) (lv_goto (tgt := 2038) hx hb dL_law_1456 (by decide) (kk _ _ _ _ _ _ _ _ _ _ I2 hW hS (lv_sub hl [2, 3, 4, 5, 6] rfl)))
  refine lv_aload_n hx hb dL_law_1444 rfl (lv_at hl 3 rfl) ?_
  refine lv_iconst (v := 0) hx hb dL_law_1445 (by decide +kernel) ?_
  refine lw_gets hx hb hK hW.2.2 dL_law_1446 ?_
  refine lv_toJ (z := r.toInt64) (hv cz) ?_
  refine lv_iload hx hb dL_law_1447 (lv_at hl 0 rfl) ?_
  refine lv_i2l (v := r.toInt64) hx hb dL_law_1449 rfl ?_
  refine W.lcmp hx hb dL_law_1450 ?_
  refine lv_toI (z := 0) (cmp_eq _) ?_
  refine lv_if_eq (tgt := 1456) hx hb dL_law_1451 (by decide) (fun _ => ?_) (fun z => absurd rfl z)
  exact W.widen (by omega) (by omega) (lv_goto (tgt := 2038) hx hb dL_law_1456 (by decide) (kk _ _ _ _ _ _ _ _ _ _ I2 hW hS (lv_sub hl [2, 3, 4, 5, 6] rfl)))

set_option maxHeartbeats 4000000 in
set_option maxRecDepth 100000 in
theorem law_sealOf {p : Program} {e : Env} {s : State} {m : MethodId} {below : List Frame} {meth : Method} {c : Code} {Q : State → Prop} (l : Launch) (hlt : l.stackTraces = false) (g : gT) {b L : Nat} {xs : Nat → Int32} {AD : Nat → Nat} {h : Nat} {X : Nat → Nat} {ou : Nat} (hx : p.tables.exec = Jvm.exec) (hb : c.code = cL_law) (hml : c.maxLocals = 9) (hts : ∀ w ∈ wsL_law, w.before #[Value.ref b] s = true) (hown : s.vm.findClass RL = some m.cls) (hK : KK g s) (hZ : ZZ s s.heap) (hX : va_X b L xs s s.heap) (hbl : b < s.heap.size) (hL : L ≤ 2048) (hD : LD g (hiA s) AD h X ou)
    {LL : Nat → ltT} {EE : Nat → evT} {LN : Nat → Nat} {lc ec : Nat} {V : Nat → Nat → Int32} {th : Int32} {v : Int64} {H : Heap} {cells slots i : Nat} {ls : Array Slot} (I : Inv LL EE LN lc ec V) (hW : LW g AD LL EE lc ec h X V th ou v H) (hS : va_S (hiA s) s.heap H []) (hi : i + 4 ≤ L) (hcl : cells + 36 ≤ room_1.cells) (hsl : slots + 264 ≤ room_1.slots) (hl : lv_has ls 9 [(4, .int (nI i)), (3, .ref ou), (2, .ref h), (1, .ref (AD 0)), (0, .ref b)])
    (kk : ∀ (LL : Nat → ltT) (EE : Nat → evT) (LN : Nat → Nat) (lc ec : Nat) (V : Nat → Nat → Int32) (th : Int32) (v : Int64) (H : Heap) (ls : Array Slot), Inv LL EE LN lc ec V → LW g AD LL EE lc ec h X V th ou v H → va_S (hiA s) s.heap H [] → lv_has ls 9 [(4, .int (nI i)), (3, .ref ou), (2, .ref h), (1, .ref (AD 0)), (0, .ref b)] → W p l e room_1 s m #[Value.ref b] below meth c H [] (cells + 36) (slots + 264) Q (F0 m 2038 ls [])) : W p l e room_1 s m #[Value.ref b] below meth c H [] cells slots Q (F0 m 1459 ls []) := by
  have S : CallFix p m c cL_law 9 s #[Value.ref b] wsL_law RL := ⟨hx, hb, hml, hown, hts⟩
  obtain ⟨code, r, v2, LL2, EE2, LN2, lc2, ec2, V2, rm, hw1, ⟨r1, r2, r3, r4⟩, hw2, I2, hv⟩ := op_sealOf l hlt g AD h X LL EE LN lc ec V th ou v I (xs (nI (i + 1)).toNatClampNeg)
  refine lv_aload_n hx hb dL_law_1459 rfl (lv_at hl 3 rfl) ?_
  refine lv_aload_n hx hb dL_law_1460 rfl (lv_at hl 4 rfl) ?_
  refine lv_iload hx hb dL_law_1461 (lv_at hl 0 rfl) ?_
  refine lv_iconst (v := nI 1) hx hb dL_law_1463 (by decide +kernel) ?_
  refine lv_iadd hx hb dL_law_1464 ?_
  refine lv_toI (z := nI (i + 1)) (nI_add _ _) ?_
  refine va_sld hx hb hX hbl (Nat.not_le.mpr hbl) hS (vp_in_nI (by omega) (by omega)) dL_law_1465 ?_
  refine lv_aload_n hx hb dL_law_1466 rfl (lv_at hl 1 rfl) ?_
  refine lw_W (h := h) (X := X) (As := [.ref (AD 0), .int (xs (nI (i + 1)).toNatClampNeg), .ref (ou)]) (rest := []) S hw1 (vx_cwSW 3 hts gL_law_L_sealOf rfl rfl rfl (by decide +kernel) ⟨Nat.le_of_ble_eq_true rfl, Nat.le_of_ble_eq_true rfl⟩) hK hZ hD hW hS rfl hl.1 rfl (Nat.le_of_ble_eq_true rfl) dL_law_1467 ⟨by show _ ≤ room_1.cells; omega, by show _ ≤ room_1.slots; omega⟩ (fun H hP hPm hO hS => ?_)
  refine lv_istore (lv' := [(5, .int (code)), (4, .int (nI i)), (3, .ref (ou)), (2, .ref (h)), (1, .ref (AD 0)), (0, .ref (b))]) hx hb dL_law_1470 hl (by decide) rfl (fun ls hl => ?_)
  refine lv_aload_n hx hb dL_law_1472 rfl (lv_at hl 3 rfl) ?_
  refine lv_aload_n hx hb dL_law_1473 rfl (lv_at hl 5 rfl) ?_
  refine lv_iload hx hb dL_law_1474 (lv_at hl 1 rfl) ?_
  refine lv_iconst (v := nI 1) hx hb dL_law_1476 (by decide +kernel) ?_
  refine lv_iadd hx hb dL_law_1477 ?_
  refine lv_toI (z := nI (i + 1)) (nI_add _ _) ?_
  refine va_sld hx hb hX hbl (Nat.not_le.mpr hbl) hS (vp_in_nI (by omega) (by omega)) dL_law_1478 ?_
  refine lw_M (As := [.int (xs (nI (i + 1)).toNatClampNeg)]) (rest := []) S hw2 (cwV 1 hts gL_law_X3_sealOf rfl r2 r3 (by decide +kernel) ⟨by show rm.frames + 1 ≤ 12; omega, by show 8 + (2 + 11) + rm.locals ≤ 436; omega⟩) hK (va_recv hK.1 hPm (ci := 3) (q0 := 0) rfl rfl) hD hP hPm hO hS rfl hl.1 rfl (Nat.le_of_ble_eq_true rfl) dL_law_1479 ⟨by show _ ≤ room_1.cells; omega, by show _ ≤ room_1.slots; omega⟩ (fun H hW hS => ?_)
  refine lv_istore (lv' := [(6, .int (r)), (5, .int (code)), (4, .int (nI i)), (3, .ref (ou)), (2, .ref (h)), (1, .ref (AD 0)), (0, .ref (b))]) hx hb dL_law_1482 hl (by decide) rfl (fun ls hl => ?_)
  refine lv_aload_n hx hb dL_law_1484 rfl (lv_at hl 4 rfl) ?_
  refine p_V (As := []) (rest := []) S (c_X3_thrown l g h X V2 code lc2 ec2) (cwV 0 hts gL_law_X3_thrown rfl rfl rfl (by decide +kernel) ⟨Nat.le_of_ble_eq_true rfl, Nat.le_of_ble_eq_true rfl⟩) hK (va_recv hK.1 hW.2.1 (ci := 3) (q0 := 0) rfl rfl) hW.2.1 rfl hl.1 rfl (Nat.le_of_ble_eq_true rfl) dL_law_1485 ⟨by show _ ≤ room_1.cells; omega, by show _ ≤ room_1.slots; omega⟩ ?_
  refine lv_iload hx hb dL_law_1488 (lv_at hl 1 rfl) ?_
  refine lv_icmp_eq (tgt := 1495) hx hb dL_law_1490 (by decide) (fun _ => ?_) (fun z => absurd rfl z)
  refine lv_iload hx hb dL_law_1495 (lv_at hl 1 rfl) ?_
  refine lv_if_ne (tgt := 1512) hx hb dL_law_1497 (by decide) (fun cz => ?_) (fun cz => ?_)
  · exact W.widen (by omega) (by omega) (lv_goto (tgt := 2038) hx hb dL_law_1512 (by decide) (kk _ _ _ _ _ _ _ _ _ _ I2 hW hS (lv_sub hl [2, 3, 4, 5, 6] rfl)))
  refine lv_aload_n hx hb dL_law_1500 rfl (lv_at hl 3 rfl) ?_
  refine lv_iconst (v := 0) hx hb dL_law_1501 (by decide +kernel) ?_
  refine lw_gets hx hb hK hW.2.2 dL_law_1502 ?_
  refine lv_toJ (z := r.toInt64) (hv cz) ?_
  refine lv_iload hx hb dL_law_1503 (lv_at hl 0 rfl) ?_
  refine lv_i2l (v := r.toInt64) hx hb dL_law_1505 rfl ?_
  refine W.lcmp hx hb dL_law_1506 ?_
  refine lv_toI (z := 0) (cmp_eq _) ?_
  refine lv_if_eq (tgt := 1512) hx hb dL_law_1507 (by decide) (fun _ => ?_) (fun z => absurd rfl z)
  exact W.widen (by omega) (by omega) (lv_goto (tgt := 2038) hx hb dL_law_1512 (by decide) (kk _ _ _ _ _ _ _ _ _ _ I2 hW hS (lv_sub hl [2, 3, 4, 5, 6] rfl)))

set_option maxHeartbeats 4000000 in
set_option maxRecDepth 100000 in
theorem law_tornBlocks {p : Program} {e : Env} {s : State} {m : MethodId} {below : List Frame} {meth : Method} {c : Code} {Q : State → Prop} (l : Launch) (hlt : l.stackTraces = false) (g : gT) {b L : Nat} {xs : Nat → Int32} {AD : Nat → Nat} {h : Nat} {X : Nat → Nat} {ou : Nat} (hx : p.tables.exec = Jvm.exec) (hb : c.code = cL_law) (hml : c.maxLocals = 9) (hts : ∀ w ∈ wsL_law, w.before #[Value.ref b] s = true) (hown : s.vm.findClass RL = some m.cls) (hK : KK g s) (hZ : ZZ s s.heap) (hX : va_X b L xs s s.heap) (hbl : b < s.heap.size) (hL : L ≤ 2048) (hD : LD g (hiA s) AD h X ou)
    {LL : Nat → ltT} {EE : Nat → evT} {LN : Nat → Nat} {lc ec : Nat} {V : Nat → Nat → Int32} {th : Int32} {v : Int64} {H : Heap} {cells slots i : Nat} {ls : Array Slot} (I : Inv LL EE LN lc ec V) (hW : LW g AD LL EE lc ec h X V th ou v H) (hS : va_S (hiA s) s.heap H []) (hi : i + 4 ≤ L) (hcl : cells + 36 ≤ room_1.cells) (hsl : slots + 264 ≤ room_1.slots) (hl : lv_has ls 9 [(4, .int (nI i)), (3, .ref ou), (2, .ref h), (1, .ref (AD 0)), (0, .ref b)])
    (kk : ∀ (LL : Nat → ltT) (EE : Nat → evT) (LN : Nat → Nat) (lc ec : Nat) (V : Nat → Nat → Int32) (th : Int32) (v : Int64) (H : Heap) (ls : Array Slot), Inv LL EE LN lc ec V → LW g AD LL EE lc ec h X V th ou v H → va_S (hiA s) s.heap H [] → lv_has ls 9 [(4, .int (nI i)), (3, .ref ou), (2, .ref h), (1, .ref (AD 0)), (0, .ref b)] → W p l e room_1 s m #[Value.ref b] below meth c H [] (cells + 36) (slots + 264) Q (F0 m 2038 ls [])) : W p l e room_1 s m #[Value.ref b] below meth c H [] cells slots Q (F0 m 1591 ls []) := by
  have S : CallFix p m c cL_law 9 s #[Value.ref b] wsL_law RL := ⟨hx, hb, hml, hown, hts⟩
  obtain ⟨code, r, v2, LL2, EE2, LN2, lc2, ec2, V2, rm, hw1, ⟨r1, r2, r3, r4⟩, hw2, I2, hv⟩ := op_tornBlocks l hlt g AD h X LL EE LN lc ec V th ou v I (xs (nI (i + 1)).toNatClampNeg)
  refine lv_aload_n hx hb dL_law_1591 rfl (lv_at hl 3 rfl) ?_
  refine lv_aload_n hx hb dL_law_1592 rfl (lv_at hl 4 rfl) ?_
  refine lv_iload hx hb dL_law_1593 (lv_at hl 0 rfl) ?_
  refine lv_iconst (v := nI 1) hx hb dL_law_1595 (by decide +kernel) ?_
  refine lv_iadd hx hb dL_law_1596 ?_
  refine lv_toI (z := nI (i + 1)) (nI_add _ _) ?_
  refine va_sld hx hb hX hbl (Nat.not_le.mpr hbl) hS (vp_in_nI (by omega) (by omega)) dL_law_1597 ?_
  refine lv_aload_n hx hb dL_law_1598 rfl (lv_at hl 1 rfl) ?_
  refine lw_W (h := h) (X := X) (As := [.ref (AD 0), .int (xs (nI (i + 1)).toNatClampNeg), .ref (ou)]) (rest := []) S hw1 (vx_cwSW 3 hts gL_law_L_tornBlocks rfl rfl rfl (by decide +kernel) ⟨Nat.le_of_ble_eq_true rfl, Nat.le_of_ble_eq_true rfl⟩) hK hZ hD hW hS rfl hl.1 rfl (Nat.le_of_ble_eq_true rfl) dL_law_1599 ⟨by show _ ≤ room_1.cells; omega, by show _ ≤ room_1.slots; omega⟩ (fun H hP hPm hO hS => ?_)
  refine lv_istore (lv' := [(5, .int (code)), (4, .int (nI i)), (3, .ref (ou)), (2, .ref (h)), (1, .ref (AD 0)), (0, .ref (b))]) hx hb dL_law_1602 hl (by decide) rfl (fun ls hl => ?_)
  refine lv_aload_n hx hb dL_law_1604 rfl (lv_at hl 3 rfl) ?_
  refine lv_aload_n hx hb dL_law_1605 rfl (lv_at hl 5 rfl) ?_
  refine lv_iload hx hb dL_law_1606 (lv_at hl 1 rfl) ?_
  refine lv_iconst (v := nI 1) hx hb dL_law_1608 (by decide +kernel) ?_
  refine lv_iadd hx hb dL_law_1609 ?_
  refine lv_toI (z := nI (i + 1)) (nI_add _ _) ?_
  refine va_sld hx hb hX hbl (Nat.not_le.mpr hbl) hS (vp_in_nI (by omega) (by omega)) dL_law_1610 ?_
  refine lw_M (As := [.int (xs (nI (i + 1)).toNatClampNeg)]) (rest := []) S hw2 (cwV 1 hts gL_law_X3_tornBlocks rfl r2 r3 (by decide +kernel) ⟨by show rm.frames + 1 ≤ 12; omega, by show 8 + (2 + 11) + rm.locals ≤ 436; omega⟩) hK (va_recv hK.1 hPm (ci := 3) (q0 := 0) rfl rfl) hD hP hPm hO hS rfl hl.1 rfl (Nat.le_of_ble_eq_true rfl) dL_law_1611 ⟨by show _ ≤ room_1.cells; omega, by show _ ≤ room_1.slots; omega⟩ (fun H hW hS => ?_)
  refine lv_istore (lv' := [(6, .int (r)), (5, .int (code)), (4, .int (nI i)), (3, .ref (ou)), (2, .ref (h)), (1, .ref (AD 0)), (0, .ref (b))]) hx hb dL_law_1614 hl (by decide) rfl (fun ls hl => ?_)
  refine lv_aload_n hx hb dL_law_1616 rfl (lv_at hl 4 rfl) ?_
  refine p_V (As := []) (rest := []) S (c_X3_thrown l g h X V2 code lc2 ec2) (cwV 0 hts gL_law_X3_thrown rfl rfl rfl (by decide +kernel) ⟨Nat.le_of_ble_eq_true rfl, Nat.le_of_ble_eq_true rfl⟩) hK (va_recv hK.1 hW.2.1 (ci := 3) (q0 := 0) rfl rfl) hW.2.1 rfl hl.1 rfl (Nat.le_of_ble_eq_true rfl) dL_law_1617 ⟨by show _ ≤ room_1.cells; omega, by show _ ≤ room_1.slots; omega⟩ ?_
  refine lv_iload hx hb dL_law_1620 (lv_at hl 1 rfl) ?_
  refine lv_icmp_eq (tgt := 1627) hx hb dL_law_1622 (by decide) (fun _ => ?_) (fun z => absurd rfl z)
  refine lv_iload hx hb dL_law_1627 (lv_at hl 1 rfl) ?_
  refine lv_if_ne (tgt := 1644) hx hb dL_law_1629 (by decide) (fun cz => ?_) (fun cz => ?_)
  · exact W.widen (by omega) (by omega) (lv_goto (tgt := 2038) hx hb dL_law_1644 (by decide) (kk _ _ _ _ _ _ _ _ _ _ I2 hW hS (lv_sub hl [2, 3, 4, 5, 6] rfl)))
  refine lv_aload_n hx hb dL_law_1632 rfl (lv_at hl 3 rfl) ?_
  refine lv_iconst (v := 0) hx hb dL_law_1633 (by decide +kernel) ?_
  refine lw_gets hx hb hK hW.2.2 dL_law_1634 ?_
  refine lv_toJ (z := r.toInt64) (hv cz) ?_
  refine lv_iload hx hb dL_law_1635 (lv_at hl 0 rfl) ?_
  refine lv_i2l (v := r.toInt64) hx hb dL_law_1637 rfl ?_
  refine W.lcmp hx hb dL_law_1638 ?_
  refine lv_toI (z := 0) (cmp_eq _) ?_
  refine lv_if_eq (tgt := 1644) hx hb dL_law_1639 (by decide) (fun _ => ?_) (fun z => absurd rfl z)
  exact W.widen (by omega) (by omega) (lv_goto (tgt := 2038) hx hb dL_law_1644 (by decide) (kk _ _ _ _ _ _ _ _ _ _ I2 hW hS (lv_sub hl [2, 3, 4, 5, 6] rfl)))

set_option maxHeartbeats 4000000 in
set_option maxRecDepth 100000 in
theorem law_firstTorn {p : Program} {e : Env} {s : State} {m : MethodId} {below : List Frame} {meth : Method} {c : Code} {Q : State → Prop} (l : Launch) (hlt : l.stackTraces = false) (g : gT) {b L : Nat} {xs : Nat → Int32} {AD : Nat → Nat} {h : Nat} {X : Nat → Nat} {ou : Nat} (hx : p.tables.exec = Jvm.exec) (hb : c.code = cL_law) (hml : c.maxLocals = 9) (hts : ∀ w ∈ wsL_law, w.before #[Value.ref b] s = true) (hown : s.vm.findClass RL = some m.cls) (hK : KK g s) (hZ : ZZ s s.heap) (hX : va_X b L xs s s.heap) (hbl : b < s.heap.size) (hL : L ≤ 2048) (hD : LD g (hiA s) AD h X ou)
    {LL : Nat → ltT} {EE : Nat → evT} {LN : Nat → Nat} {lc ec : Nat} {V : Nat → Nat → Int32} {th : Int32} {v : Int64} {H : Heap} {cells slots i : Nat} {ls : Array Slot} (I : Inv LL EE LN lc ec V) (hW : LW g AD LL EE lc ec h X V th ou v H) (hS : va_S (hiA s) s.heap H []) (hi : i + 4 ≤ L) (hcl : cells + 36 ≤ room_1.cells) (hsl : slots + 264 ≤ room_1.slots) (hl : lv_has ls 9 [(4, .int (nI i)), (3, .ref ou), (2, .ref h), (1, .ref (AD 0)), (0, .ref b)])
    (kk : ∀ (LL : Nat → ltT) (EE : Nat → evT) (LN : Nat → Nat) (lc ec : Nat) (V : Nat → Nat → Int32) (th : Int32) (v : Int64) (H : Heap) (ls : Array Slot), Inv LL EE LN lc ec V → LW g AD LL EE lc ec h X V th ou v H → va_S (hiA s) s.heap H [] → lv_has ls 9 [(4, .int (nI i)), (3, .ref ou), (2, .ref h), (1, .ref (AD 0)), (0, .ref b)] → W p l e room_1 s m #[Value.ref b] below meth c H [] (cells + 36) (slots + 264) Q (F0 m 2038 ls [])) : W p l e room_1 s m #[Value.ref b] below meth c H [] cells slots Q (F0 m 1647 ls []) := by
  have S : CallFix p m c cL_law 9 s #[Value.ref b] wsL_law RL := ⟨hx, hb, hml, hown, hts⟩
  obtain ⟨code, r, v2, LL2, EE2, LN2, lc2, ec2, V2, rm, hw1, ⟨r1, r2, r3, r4⟩, hw2, I2, hv⟩ := op_firstTorn l hlt g AD h X LL EE LN lc ec V th ou v I (xs (nI (i + 1)).toNatClampNeg)
  refine lv_aload_n hx hb dL_law_1647 rfl (lv_at hl 3 rfl) ?_
  refine lv_aload_n hx hb dL_law_1648 rfl (lv_at hl 4 rfl) ?_
  refine lv_iload hx hb dL_law_1649 (lv_at hl 0 rfl) ?_
  refine lv_iconst (v := nI 1) hx hb dL_law_1651 (by decide +kernel) ?_
  refine lv_iadd hx hb dL_law_1652 ?_
  refine lv_toI (z := nI (i + 1)) (nI_add _ _) ?_
  refine va_sld hx hb hX hbl (Nat.not_le.mpr hbl) hS (vp_in_nI (by omega) (by omega)) dL_law_1653 ?_
  refine lv_aload_n hx hb dL_law_1654 rfl (lv_at hl 1 rfl) ?_
  refine lw_W (h := h) (X := X) (As := [.ref (AD 0), .int (xs (nI (i + 1)).toNatClampNeg), .ref (ou)]) (rest := []) S hw1 (vx_cwSW 3 hts gL_law_L_firstTorn rfl rfl rfl (by decide +kernel) ⟨Nat.le_of_ble_eq_true rfl, Nat.le_of_ble_eq_true rfl⟩) hK hZ hD hW hS rfl hl.1 rfl (Nat.le_of_ble_eq_true rfl) dL_law_1655 ⟨by show _ ≤ room_1.cells; omega, by show _ ≤ room_1.slots; omega⟩ (fun H hP hPm hO hS => ?_)
  refine lv_istore (lv' := [(5, .int (code)), (4, .int (nI i)), (3, .ref (ou)), (2, .ref (h)), (1, .ref (AD 0)), (0, .ref (b))]) hx hb dL_law_1658 hl (by decide) rfl (fun ls hl => ?_)
  refine lv_aload_n hx hb dL_law_1660 rfl (lv_at hl 3 rfl) ?_
  refine lv_aload_n hx hb dL_law_1661 rfl (lv_at hl 5 rfl) ?_
  refine lv_iload hx hb dL_law_1662 (lv_at hl 1 rfl) ?_
  refine lv_iconst (v := nI 1) hx hb dL_law_1664 (by decide +kernel) ?_
  refine lv_iadd hx hb dL_law_1665 ?_
  refine lv_toI (z := nI (i + 1)) (nI_add _ _) ?_
  refine va_sld hx hb hX hbl (Nat.not_le.mpr hbl) hS (vp_in_nI (by omega) (by omega)) dL_law_1666 ?_
  refine lw_M (As := [.int (xs (nI (i + 1)).toNatClampNeg)]) (rest := []) S hw2 (cwV 1 hts gL_law_X3_firstTorn rfl r2 r3 (by decide +kernel) ⟨by show rm.frames + 1 ≤ 12; omega, by show 8 + (2 + 11) + rm.locals ≤ 436; omega⟩) hK (va_recv hK.1 hPm (ci := 3) (q0 := 0) rfl rfl) hD hP hPm hO hS rfl hl.1 rfl (Nat.le_of_ble_eq_true rfl) dL_law_1667 ⟨by show _ ≤ room_1.cells; omega, by show _ ≤ room_1.slots; omega⟩ (fun H hW hS => ?_)
  refine lv_istore (lv' := [(6, .int (r)), (5, .int (code)), (4, .int (nI i)), (3, .ref (ou)), (2, .ref (h)), (1, .ref (AD 0)), (0, .ref (b))]) hx hb dL_law_1670 hl (by decide) rfl (fun ls hl => ?_)
  refine lv_aload_n hx hb dL_law_1672 rfl (lv_at hl 4 rfl) ?_
  refine p_V (As := []) (rest := []) S (c_X3_thrown l g h X V2 code lc2 ec2) (cwV 0 hts gL_law_X3_thrown rfl rfl rfl (by decide +kernel) ⟨Nat.le_of_ble_eq_true rfl, Nat.le_of_ble_eq_true rfl⟩) hK (va_recv hK.1 hW.2.1 (ci := 3) (q0 := 0) rfl rfl) hW.2.1 rfl hl.1 rfl (Nat.le_of_ble_eq_true rfl) dL_law_1673 ⟨by show _ ≤ room_1.cells; omega, by show _ ≤ room_1.slots; omega⟩ ?_
  refine lv_iload hx hb dL_law_1676 (lv_at hl 1 rfl) ?_
  refine lv_icmp_eq (tgt := 1683) hx hb dL_law_1678 (by decide) (fun _ => ?_) (fun z => absurd rfl z)
  refine lv_iload hx hb dL_law_1683 (lv_at hl 1 rfl) ?_
  refine lv_if_ne (tgt := 1700) hx hb dL_law_1685 (by decide) (fun cz => ?_) (fun cz => ?_)
  · exact W.widen (by omega) (by omega) (lv_goto (tgt := 2038) hx hb dL_law_1700 (by decide) (kk _ _ _ _ _ _ _ _ _ _ I2 hW hS (lv_sub hl [2, 3, 4, 5, 6] rfl)))
  refine lv_aload_n hx hb dL_law_1688 rfl (lv_at hl 3 rfl) ?_
  refine lv_iconst (v := 0) hx hb dL_law_1689 (by decide +kernel) ?_
  refine lw_gets hx hb hK hW.2.2 dL_law_1690 ?_
  refine lv_toJ (z := r.toInt64) (hv cz) ?_
  refine lv_iload hx hb dL_law_1691 (lv_at hl 0 rfl) ?_
  refine lv_i2l (v := r.toInt64) hx hb dL_law_1693 rfl ?_
  refine W.lcmp hx hb dL_law_1694 ?_
  refine lv_toI (z := 0) (cmp_eq _) ?_
  refine lv_if_eq (tgt := 1700) hx hb dL_law_1695 (by decide) (fun _ => ?_) (fun z => absurd rfl z)
  exact W.widen (by omega) (by omega) (lv_goto (tgt := 2038) hx hb dL_law_1700 (by decide) (kk _ _ _ _ _ _ _ _ _ _ I2 hW hS (lv_sub hl [2, 3, 4, 5, 6] rfl)))

set_option maxHeartbeats 4000000 in
set_option maxRecDepth 100000 in
theorem law_changedPlace {p : Program} {e : Env} {s : State} {m : MethodId} {below : List Frame} {meth : Method} {c : Code} {Q : State → Prop} (l : Launch) (hlt : l.stackTraces = false) (g : gT) {b L : Nat} {xs : Nat → Int32} {AD : Nat → Nat} {h : Nat} {X : Nat → Nat} {ou : Nat} (hx : p.tables.exec = Jvm.exec) (hb : c.code = cL_law) (hml : c.maxLocals = 9) (hts : ∀ w ∈ wsL_law, w.before #[Value.ref b] s = true) (hown : s.vm.findClass RL = some m.cls) (hK : KK g s) (hZ : ZZ s s.heap) (hX : va_X b L xs s s.heap) (hbl : b < s.heap.size) (hL : L ≤ 2048) (hD : LD g (hiA s) AD h X ou)
    {LL : Nat → ltT} {EE : Nat → evT} {LN : Nat → Nat} {lc ec : Nat} {V : Nat → Nat → Int32} {th : Int32} {v : Int64} {H : Heap} {cells slots i : Nat} {ls : Array Slot} (I : Inv LL EE LN lc ec V) (hW : LW g AD LL EE lc ec h X V th ou v H) (hS : va_S (hiA s) s.heap H []) (hi : i + 4 ≤ L) (hcl : cells + 36 ≤ room_1.cells) (hsl : slots + 264 ≤ room_1.slots) (hl : lv_has ls 9 [(4, .int (nI i)), (3, .ref ou), (2, .ref h), (1, .ref (AD 0)), (0, .ref b)])
    (kk : ∀ (LL : Nat → ltT) (EE : Nat → evT) (LN : Nat → Nat) (lc ec : Nat) (V : Nat → Nat → Int32) (th : Int32) (v : Int64) (H : Heap) (ls : Array Slot), Inv LL EE LN lc ec V → LW g AD LL EE lc ec h X V th ou v H → va_S (hiA s) s.heap H [] → lv_has ls 9 [(4, .int (nI i)), (3, .ref ou), (2, .ref h), (1, .ref (AD 0)), (0, .ref b)] → W p l e room_1 s m #[Value.ref b] below meth c H [] (cells + 36) (slots + 264) Q (F0 m 2038 ls [])) : W p l e room_1 s m #[Value.ref b] below meth c H [] cells slots Q (F0 m 1703 ls []) := by
  have S : CallFix p m c cL_law 9 s #[Value.ref b] wsL_law RL := ⟨hx, hb, hml, hown, hts⟩
  obtain ⟨code, r, v2, LL2, EE2, LN2, lc2, ec2, V2, rm, hw1, ⟨r1, r2, r3, r4⟩, hw2, I2, hv⟩ := op_changedPlace l hlt g AD h X LL EE LN lc ec V th ou v I (xs (nI (i + 1)).toNatClampNeg)
  refine lv_aload_n hx hb dL_law_1703 rfl (lv_at hl 3 rfl) ?_
  refine lv_aload_n hx hb dL_law_1704 rfl (lv_at hl 4 rfl) ?_
  refine lv_iload hx hb dL_law_1705 (lv_at hl 0 rfl) ?_
  refine lv_iconst (v := nI 1) hx hb dL_law_1707 (by decide +kernel) ?_
  refine lv_iadd hx hb dL_law_1708 ?_
  refine lv_toI (z := nI (i + 1)) (nI_add _ _) ?_
  refine va_sld hx hb hX hbl (Nat.not_le.mpr hbl) hS (vp_in_nI (by omega) (by omega)) dL_law_1709 ?_
  refine lv_aload_n hx hb dL_law_1710 rfl (lv_at hl 1 rfl) ?_
  refine lw_W (h := h) (X := X) (As := [.ref (AD 0), .int (xs (nI (i + 1)).toNatClampNeg), .ref (ou)]) (rest := []) S hw1 (vx_cwSW 3 hts gL_law_L_changedPlace rfl rfl rfl (by decide +kernel) ⟨Nat.le_of_ble_eq_true rfl, Nat.le_of_ble_eq_true rfl⟩) hK hZ hD hW hS rfl hl.1 rfl (Nat.le_of_ble_eq_true rfl) dL_law_1711 ⟨by show _ ≤ room_1.cells; omega, by show _ ≤ room_1.slots; omega⟩ (fun H hP hPm hO hS => ?_)
  refine lv_istore (lv' := [(5, .int (code)), (4, .int (nI i)), (3, .ref (ou)), (2, .ref (h)), (1, .ref (AD 0)), (0, .ref (b))]) hx hb dL_law_1714 hl (by decide) rfl (fun ls hl => ?_)
  refine lv_aload_n hx hb dL_law_1716 rfl (lv_at hl 3 rfl) ?_
  refine lv_aload_n hx hb dL_law_1717 rfl (lv_at hl 5 rfl) ?_
  refine lv_iload hx hb dL_law_1718 (lv_at hl 1 rfl) ?_
  refine lv_iconst (v := nI 1) hx hb dL_law_1720 (by decide +kernel) ?_
  refine lv_iadd hx hb dL_law_1721 ?_
  refine lv_toI (z := nI (i + 1)) (nI_add _ _) ?_
  refine va_sld hx hb hX hbl (Nat.not_le.mpr hbl) hS (vp_in_nI (by omega) (by omega)) dL_law_1722 ?_
  refine lw_M (As := [.int (xs (nI (i + 1)).toNatClampNeg)]) (rest := []) S hw2 (cwV 1 hts gL_law_X3_changedPlace rfl r2 r3 (by decide +kernel) ⟨by show rm.frames + 1 ≤ 12; omega, by show 8 + (2 + 11) + rm.locals ≤ 436; omega⟩) hK (va_recv hK.1 hPm (ci := 3) (q0 := 0) rfl rfl) hD hP hPm hO hS rfl hl.1 rfl (Nat.le_of_ble_eq_true rfl) dL_law_1723 ⟨by show _ ≤ room_1.cells; omega, by show _ ≤ room_1.slots; omega⟩ (fun H hW hS => ?_)
  refine lv_istore (lv' := [(6, .int (r)), (5, .int (code)), (4, .int (nI i)), (3, .ref (ou)), (2, .ref (h)), (1, .ref (AD 0)), (0, .ref (b))]) hx hb dL_law_1726 hl (by decide) rfl (fun ls hl => ?_)
  refine lv_aload_n hx hb dL_law_1728 rfl (lv_at hl 4 rfl) ?_
  refine p_V (As := []) (rest := []) S (c_X3_thrown l g h X V2 code lc2 ec2) (cwV 0 hts gL_law_X3_thrown rfl rfl rfl (by decide +kernel) ⟨Nat.le_of_ble_eq_true rfl, Nat.le_of_ble_eq_true rfl⟩) hK (va_recv hK.1 hW.2.1 (ci := 3) (q0 := 0) rfl rfl) hW.2.1 rfl hl.1 rfl (Nat.le_of_ble_eq_true rfl) dL_law_1729 ⟨by show _ ≤ room_1.cells; omega, by show _ ≤ room_1.slots; omega⟩ ?_
  refine lv_iload hx hb dL_law_1732 (lv_at hl 1 rfl) ?_
  refine lv_icmp_eq (tgt := 1739) hx hb dL_law_1734 (by decide) (fun _ => ?_) (fun z => absurd rfl z)
  refine lv_iload hx hb dL_law_1739 (lv_at hl 1 rfl) ?_
  refine lv_if_ne (tgt := 1756) hx hb dL_law_1741 (by decide) (fun cz => ?_) (fun cz => ?_)
  · exact W.widen (by omega) (by omega) (lv_goto (tgt := 2038) hx hb dL_law_1756 (by decide) (kk _ _ _ _ _ _ _ _ _ _ I2 hW hS (lv_sub hl [2, 3, 4, 5, 6] rfl)))
  refine lv_aload_n hx hb dL_law_1744 rfl (lv_at hl 3 rfl) ?_
  refine lv_iconst (v := 0) hx hb dL_law_1745 (by decide +kernel) ?_
  refine lw_gets hx hb hK hW.2.2 dL_law_1746 ?_
  refine lv_toJ (z := r.toInt64) (hv cz) ?_
  refine lv_iload hx hb dL_law_1747 (lv_at hl 0 rfl) ?_
  refine lv_i2l (v := r.toInt64) hx hb dL_law_1749 rfl ?_
  refine W.lcmp hx hb dL_law_1750 ?_
  refine lv_toI (z := 0) (cmp_eq _) ?_
  refine lv_if_eq (tgt := 1756) hx hb dL_law_1751 (by decide) (fun _ => ?_) (fun z => absurd rfl z)
  exact W.widen (by omega) (by omega) (lv_goto (tgt := 2038) hx hb dL_law_1756 (by decide) (kk _ _ _ _ _ _ _ _ _ _ I2 hW hS (lv_sub hl [2, 3, 4, 5, 6] rfl)))

set_option maxHeartbeats 4000000 in
set_option maxRecDepth 100000 in
theorem law_changedSign {p : Program} {e : Env} {s : State} {m : MethodId} {below : List Frame} {meth : Method} {c : Code} {Q : State → Prop} (l : Launch) (hlt : l.stackTraces = false) (g : gT) {b L : Nat} {xs : Nat → Int32} {AD : Nat → Nat} {h : Nat} {X : Nat → Nat} {ou : Nat} (hx : p.tables.exec = Jvm.exec) (hb : c.code = cL_law) (hml : c.maxLocals = 9) (hts : ∀ w ∈ wsL_law, w.before #[Value.ref b] s = true) (hown : s.vm.findClass RL = some m.cls) (hK : KK g s) (hZ : ZZ s s.heap) (hX : va_X b L xs s s.heap) (hbl : b < s.heap.size) (hL : L ≤ 2048) (hD : LD g (hiA s) AD h X ou)
    {LL : Nat → ltT} {EE : Nat → evT} {LN : Nat → Nat} {lc ec : Nat} {V : Nat → Nat → Int32} {th : Int32} {v : Int64} {H : Heap} {cells slots i : Nat} {ls : Array Slot} (I : Inv LL EE LN lc ec V) (hW : LW g AD LL EE lc ec h X V th ou v H) (hS : va_S (hiA s) s.heap H []) (hi : i + 4 ≤ L) (hcl : cells + 36 ≤ room_1.cells) (hsl : slots + 264 ≤ room_1.slots) (hl : lv_has ls 9 [(4, .int (nI i)), (3, .ref ou), (2, .ref h), (1, .ref (AD 0)), (0, .ref b)])
    (kk : ∀ (LL : Nat → ltT) (EE : Nat → evT) (LN : Nat → Nat) (lc ec : Nat) (V : Nat → Nat → Int32) (th : Int32) (v : Int64) (H : Heap) (ls : Array Slot), Inv LL EE LN lc ec V → LW g AD LL EE lc ec h X V th ou v H → va_S (hiA s) s.heap H [] → lv_has ls 9 [(4, .int (nI i)), (3, .ref ou), (2, .ref h), (1, .ref (AD 0)), (0, .ref b)] → W p l e room_1 s m #[Value.ref b] below meth c H [] (cells + 36) (slots + 264) Q (F0 m 2038 ls [])) : W p l e room_1 s m #[Value.ref b] below meth c H [] cells slots Q (F0 m 1759 ls []) := by
  have S : CallFix p m c cL_law 9 s #[Value.ref b] wsL_law RL := ⟨hx, hb, hml, hown, hts⟩
  obtain ⟨code, r, v2, LL2, EE2, LN2, lc2, ec2, V2, rm, hw1, ⟨r1, r2, r3, r4⟩, hw2, I2, hv⟩ := op_changedSign l hlt g AD h X LL EE LN lc ec V th ou v I (xs (nI (i + 1)).toNatClampNeg)
  refine lv_aload_n hx hb dL_law_1759 rfl (lv_at hl 3 rfl) ?_
  refine lv_aload_n hx hb dL_law_1760 rfl (lv_at hl 4 rfl) ?_
  refine lv_iload hx hb dL_law_1761 (lv_at hl 0 rfl) ?_
  refine lv_iconst (v := nI 1) hx hb dL_law_1763 (by decide +kernel) ?_
  refine lv_iadd hx hb dL_law_1764 ?_
  refine lv_toI (z := nI (i + 1)) (nI_add _ _) ?_
  refine va_sld hx hb hX hbl (Nat.not_le.mpr hbl) hS (vp_in_nI (by omega) (by omega)) dL_law_1765 ?_
  refine lv_aload_n hx hb dL_law_1766 rfl (lv_at hl 1 rfl) ?_
  refine lw_W (h := h) (X := X) (As := [.ref (AD 0), .int (xs (nI (i + 1)).toNatClampNeg), .ref (ou)]) (rest := []) S hw1 (vx_cwSW 3 hts gL_law_L_changedSign rfl rfl rfl (by decide +kernel) ⟨Nat.le_of_ble_eq_true rfl, Nat.le_of_ble_eq_true rfl⟩) hK hZ hD hW hS rfl hl.1 rfl (Nat.le_of_ble_eq_true rfl) dL_law_1767 ⟨by show _ ≤ room_1.cells; omega, by show _ ≤ room_1.slots; omega⟩ (fun H hP hPm hO hS => ?_)
  refine lv_istore (lv' := [(5, .int (code)), (4, .int (nI i)), (3, .ref (ou)), (2, .ref (h)), (1, .ref (AD 0)), (0, .ref (b))]) hx hb dL_law_1770 hl (by decide) rfl (fun ls hl => ?_)
  refine lv_aload_n hx hb dL_law_1772 rfl (lv_at hl 3 rfl) ?_
  refine lv_aload_n hx hb dL_law_1773 rfl (lv_at hl 5 rfl) ?_
  refine lv_iload hx hb dL_law_1774 (lv_at hl 1 rfl) ?_
  refine lv_iconst (v := nI 1) hx hb dL_law_1776 (by decide +kernel) ?_
  refine lv_iadd hx hb dL_law_1777 ?_
  refine lv_toI (z := nI (i + 1)) (nI_add _ _) ?_
  refine va_sld hx hb hX hbl (Nat.not_le.mpr hbl) hS (vp_in_nI (by omega) (by omega)) dL_law_1778 ?_
  refine lw_M (As := [.int (xs (nI (i + 1)).toNatClampNeg)]) (rest := []) S hw2 (cwV 1 hts gL_law_X3_changedSign rfl r2 r3 (by decide +kernel) ⟨by show rm.frames + 1 ≤ 12; omega, by show 8 + (3 + 11) + rm.locals ≤ 436; omega⟩) hK (va_recv hK.1 hPm (ci := 3) (q0 := 0) rfl rfl) hD hP hPm hO hS rfl hl.1 rfl (Nat.le_of_ble_eq_true rfl) dL_law_1779 ⟨by show _ ≤ room_1.cells; omega, by show _ ≤ room_1.slots; omega⟩ (fun H hW hS => ?_)
  refine lv_istore (lv' := [(6, .int (r)), (5, .int (code)), (4, .int (nI i)), (3, .ref (ou)), (2, .ref (h)), (1, .ref (AD 0)), (0, .ref (b))]) hx hb dL_law_1782 hl (by decide) rfl (fun ls hl => ?_)
  refine lv_aload_n hx hb dL_law_1784 rfl (lv_at hl 4 rfl) ?_
  refine p_V (As := []) (rest := []) S (c_X3_thrown l g h X V2 code lc2 ec2) (cwV 0 hts gL_law_X3_thrown rfl rfl rfl (by decide +kernel) ⟨Nat.le_of_ble_eq_true rfl, Nat.le_of_ble_eq_true rfl⟩) hK (va_recv hK.1 hW.2.1 (ci := 3) (q0 := 0) rfl rfl) hW.2.1 rfl hl.1 rfl (Nat.le_of_ble_eq_true rfl) dL_law_1785 ⟨by show _ ≤ room_1.cells; omega, by show _ ≤ room_1.slots; omega⟩ ?_
  refine lv_iload hx hb dL_law_1788 (lv_at hl 1 rfl) ?_
  refine lv_icmp_eq (tgt := 1795) hx hb dL_law_1790 (by decide) (fun _ => ?_) (fun z => absurd rfl z)
  refine lv_iload hx hb dL_law_1795 (lv_at hl 1 rfl) ?_
  refine lv_if_ne (tgt := 1812) hx hb dL_law_1797 (by decide) (fun cz => ?_) (fun cz => ?_)
  · exact W.widen (by omega) (by omega) (lv_goto (tgt := 2038) hx hb dL_law_1812 (by decide) (kk _ _ _ _ _ _ _ _ _ _ I2 hW hS (lv_sub hl [2, 3, 4, 5, 6] rfl)))
  refine lv_aload_n hx hb dL_law_1800 rfl (lv_at hl 3 rfl) ?_
  refine lv_iconst (v := 0) hx hb dL_law_1801 (by decide +kernel) ?_
  refine lw_gets hx hb hK hW.2.2 dL_law_1802 ?_
  refine lv_toJ (z := r.toInt64) (hv cz) ?_
  refine lv_iload hx hb dL_law_1803 (lv_at hl 0 rfl) ?_
  refine lv_i2l (v := r.toInt64) hx hb dL_law_1805 rfl ?_
  refine W.lcmp hx hb dL_law_1806 ?_
  refine lv_toI (z := 0) (cmp_eq _) ?_
  refine lv_if_eq (tgt := 1812) hx hb dL_law_1807 (by decide) (fun _ => ?_) (fun z => absurd rfl z)
  exact W.widen (by omega) (by omega) (lv_goto (tgt := 2038) hx hb dL_law_1812 (by decide) (kk _ _ _ _ _ _ _ _ _ _ I2 hW hS (lv_sub hl [2, 3, 4, 5, 6] rfl)))

set_option maxHeartbeats 4000000 in
set_option maxRecDepth 100000 in
theorem law_wouldSeal {p : Program} {e : Env} {s : State} {m : MethodId} {below : List Frame} {meth : Method} {c : Code} {Q : State → Prop} (l : Launch) (hlt : l.stackTraces = false) (g : gT) {b L : Nat} {xs : Nat → Int32} {AD : Nat → Nat} {h : Nat} {X : Nat → Nat} {ou : Nat} (hx : p.tables.exec = Jvm.exec) (hb : c.code = cL_law) (hml : c.maxLocals = 9) (hts : ∀ w ∈ wsL_law, w.before #[Value.ref b] s = true) (hown : s.vm.findClass RL = some m.cls) (hK : KK g s) (hZ : ZZ s s.heap) (hX : va_X b L xs s s.heap) (hbl : b < s.heap.size) (hL : L ≤ 2048) (hD : LD g (hiA s) AD h X ou)
    {LL : Nat → ltT} {EE : Nat → evT} {LN : Nat → Nat} {lc ec : Nat} {V : Nat → Nat → Int32} {th : Int32} {v : Int64} {H : Heap} {cells slots i : Nat} {ls : Array Slot} (I : Inv LL EE LN lc ec V) (hW : LW g AD LL EE lc ec h X V th ou v H) (hS : va_S (hiA s) s.heap H []) (hi : i + 4 ≤ L) (hcl : cells + 36 ≤ room_1.cells) (hsl : slots + 264 ≤ room_1.slots) (hl : lv_has ls 9 [(4, .int (nI i)), (3, .ref ou), (2, .ref h), (1, .ref (AD 0)), (0, .ref b)])
    (kk : ∀ (LL : Nat → ltT) (EE : Nat → evT) (LN : Nat → Nat) (lc ec : Nat) (V : Nat → Nat → Int32) (th : Int32) (v : Int64) (H : Heap) (ls : Array Slot), Inv LL EE LN lc ec V → LW g AD LL EE lc ec h X V th ou v H → va_S (hiA s) s.heap H [] → lv_has ls 9 [(4, .int (nI i)), (3, .ref ou), (2, .ref h), (1, .ref (AD 0)), (0, .ref b)] → W p l e room_1 s m #[Value.ref b] below meth c H [] (cells + 36) (slots + 264) Q (F0 m 2038 ls [])) : W p l e room_1 s m #[Value.ref b] below meth c H [] cells slots Q (F0 m 1815 ls []) := by
  have S : CallFix p m c cL_law 9 s #[Value.ref b] wsL_law RL := ⟨hx, hb, hml, hown, hts⟩
  obtain ⟨code, r, v2, LL2, EE2, LN2, lc2, ec2, V2, rm, hw1, ⟨r1, r2, r3, r4⟩, hw2, I2, hv⟩ := op_wouldSeal l hlt g AD h X LL EE LN lc ec V th ou v I (xs (nI (i + 1)).toNatClampNeg)
  refine lv_aload_n hx hb dL_law_1815 rfl (lv_at hl 3 rfl) ?_
  refine lv_aload_n hx hb dL_law_1816 rfl (lv_at hl 4 rfl) ?_
  refine lv_iload hx hb dL_law_1817 (lv_at hl 0 rfl) ?_
  refine lv_iconst (v := nI 1) hx hb dL_law_1819 (by decide +kernel) ?_
  refine lv_iadd hx hb dL_law_1820 ?_
  refine lv_toI (z := nI (i + 1)) (nI_add _ _) ?_
  refine va_sld hx hb hX hbl (Nat.not_le.mpr hbl) hS (vp_in_nI (by omega) (by omega)) dL_law_1821 ?_
  refine lv_aload_n hx hb dL_law_1822 rfl (lv_at hl 1 rfl) ?_
  refine lw_W (h := h) (X := X) (As := [.ref (AD 0), .int (xs (nI (i + 1)).toNatClampNeg), .ref (ou)]) (rest := []) S hw1 (vx_cwSW 3 hts gL_law_L_wouldSeal rfl rfl rfl (by decide +kernel) ⟨Nat.le_of_ble_eq_true rfl, Nat.le_of_ble_eq_true rfl⟩) hK hZ hD hW hS rfl hl.1 rfl (Nat.le_of_ble_eq_true rfl) dL_law_1823 ⟨by show _ ≤ room_1.cells; omega, by show _ ≤ room_1.slots; omega⟩ (fun H hP hPm hO hS => ?_)
  refine lv_istore (lv' := [(5, .int (code)), (4, .int (nI i)), (3, .ref (ou)), (2, .ref (h)), (1, .ref (AD 0)), (0, .ref (b))]) hx hb dL_law_1826 hl (by decide) rfl (fun ls hl => ?_)
  refine lv_aload_n hx hb dL_law_1828 rfl (lv_at hl 3 rfl) ?_
  refine lv_aload_n hx hb dL_law_1829 rfl (lv_at hl 5 rfl) ?_
  refine lv_iload hx hb dL_law_1830 (lv_at hl 1 rfl) ?_
  refine lv_iconst (v := nI 1) hx hb dL_law_1832 (by decide +kernel) ?_
  refine lv_iadd hx hb dL_law_1833 ?_
  refine lv_toI (z := nI (i + 1)) (nI_add _ _) ?_
  refine va_sld hx hb hX hbl (Nat.not_le.mpr hbl) hS (vp_in_nI (by omega) (by omega)) dL_law_1834 ?_
  refine lw_M (As := [.int (xs (nI (i + 1)).toNatClampNeg)]) (rest := []) S hw2 (cwV 1 hts gL_law_X3_wouldSeal rfl r2 r3 (by decide +kernel) ⟨by show rm.frames + 1 ≤ 12; omega, by show 8 + (2 + 11) + rm.locals ≤ 436; omega⟩) hK (va_recv hK.1 hPm (ci := 3) (q0 := 0) rfl rfl) hD hP hPm hO hS rfl hl.1 rfl (Nat.le_of_ble_eq_true rfl) dL_law_1835 ⟨by show _ ≤ room_1.cells; omega, by show _ ≤ room_1.slots; omega⟩ (fun H hW hS => ?_)
  refine lv_istore (lv' := [(6, .int (r)), (5, .int (code)), (4, .int (nI i)), (3, .ref (ou)), (2, .ref (h)), (1, .ref (AD 0)), (0, .ref (b))]) hx hb dL_law_1838 hl (by decide) rfl (fun ls hl => ?_)
  refine lv_aload_n hx hb dL_law_1840 rfl (lv_at hl 4 rfl) ?_
  refine p_V (As := []) (rest := []) S (c_X3_thrown l g h X V2 code lc2 ec2) (cwV 0 hts gL_law_X3_thrown rfl rfl rfl (by decide +kernel) ⟨Nat.le_of_ble_eq_true rfl, Nat.le_of_ble_eq_true rfl⟩) hK (va_recv hK.1 hW.2.1 (ci := 3) (q0 := 0) rfl rfl) hW.2.1 rfl hl.1 rfl (Nat.le_of_ble_eq_true rfl) dL_law_1841 ⟨by show _ ≤ room_1.cells; omega, by show _ ≤ room_1.slots; omega⟩ ?_
  refine lv_iload hx hb dL_law_1844 (lv_at hl 1 rfl) ?_
  refine lv_icmp_eq (tgt := 1851) hx hb dL_law_1846 (by decide) (fun _ => ?_) (fun z => absurd rfl z)
  refine lv_iload hx hb dL_law_1851 (lv_at hl 1 rfl) ?_
  refine lv_if_ne (tgt := 1868) hx hb dL_law_1853 (by decide) (fun cz => ?_) (fun cz => ?_)
  · exact W.widen (by omega) (by omega) (lv_goto (tgt := 2038) hx hb dL_law_1868 (by decide) (kk _ _ _ _ _ _ _ _ _ _ I2 hW hS (lv_sub hl [2, 3, 4, 5, 6] rfl)))
  refine lv_aload_n hx hb dL_law_1856 rfl (lv_at hl 3 rfl) ?_
  refine lv_iconst (v := 0) hx hb dL_law_1857 (by decide +kernel) ?_
  refine lw_gets hx hb hK hW.2.2 dL_law_1858 ?_
  refine lv_toJ (z := r.toInt64) (hv cz) ?_
  refine lv_iload hx hb dL_law_1859 (lv_at hl 0 rfl) ?_
  refine lv_i2l (v := r.toInt64) hx hb dL_law_1861 rfl ?_
  refine W.lcmp hx hb dL_law_1862 ?_
  refine lv_toI (z := 0) (cmp_eq _) ?_
  refine lv_if_eq (tgt := 1868) hx hb dL_law_1863 (by decide) (fun _ => ?_) (fun z => absurd rfl z)
  exact W.widen (by omega) (by omega) (lv_goto (tgt := 2038) hx hb dL_law_1868 (by decide) (kk _ _ _ _ _ _ _ _ _ _ I2 hW hS (lv_sub hl [2, 3, 4, 5, 6] rfl)))

set_option maxHeartbeats 4000000 in
set_option maxRecDepth 100000 in
theorem law_unnoticed {p : Program} {e : Env} {s : State} {m : MethodId} {below : List Frame} {meth : Method} {c : Code} {Q : State → Prop} (l : Launch) (hlt : l.stackTraces = false) (g : gT) {b L : Nat} {xs : Nat → Int32} {AD : Nat → Nat} {h : Nat} {X : Nat → Nat} {ou : Nat} (hx : p.tables.exec = Jvm.exec) (hb : c.code = cL_law) (hml : c.maxLocals = 9) (hts : ∀ w ∈ wsL_law, w.before #[Value.ref b] s = true) (hown : s.vm.findClass RL = some m.cls) (hK : KK g s) (hZ : ZZ s s.heap) (hX : va_X b L xs s s.heap) (hbl : b < s.heap.size) (hL : L ≤ 2048) (hD : LD g (hiA s) AD h X ou)
    {LL : Nat → ltT} {EE : Nat → evT} {LN : Nat → Nat} {lc ec : Nat} {V : Nat → Nat → Int32} {th : Int32} {v : Int64} {H : Heap} {cells slots i : Nat} {ls : Array Slot} (I : Inv LL EE LN lc ec V) (hW : LW g AD LL EE lc ec h X V th ou v H) (hS : va_S (hiA s) s.heap H []) (hi : i + 4 ≤ L) (hcl : cells + 36 ≤ room_1.cells) (hsl : slots + 264 ≤ room_1.slots) (hl : lv_has ls 9 [(4, .int (nI i)), (3, .ref ou), (2, .ref h), (1, .ref (AD 0)), (0, .ref b)])
    (kk : ∀ (LL : Nat → ltT) (EE : Nat → evT) (LN : Nat → Nat) (lc ec : Nat) (V : Nat → Nat → Int32) (th : Int32) (v : Int64) (H : Heap) (ls : Array Slot), Inv LL EE LN lc ec V → LW g AD LL EE lc ec h X V th ou v H → va_S (hiA s) s.heap H [] → lv_has ls 9 [(4, .int (nI i)), (3, .ref ou), (2, .ref h), (1, .ref (AD 0)), (0, .ref b)] → W p l e room_1 s m #[Value.ref b] below meth c H [] (cells + 36) (slots + 264) Q (F0 m 2038 ls [])) : W p l e room_1 s m #[Value.ref b] below meth c H [] cells slots Q (F0 m 1871 ls []) := by
  have S : CallFix p m c cL_law 9 s #[Value.ref b] wsL_law RL := ⟨hx, hb, hml, hown, hts⟩
  obtain ⟨code, r, v2, LL2, EE2, LN2, lc2, ec2, V2, rm, hw1, ⟨r1, r2, r3, r4⟩, hw2, I2, hv⟩ := op_unnoticed l hlt g AD h X LL EE LN lc ec V th ou v I (xs (nI (i + 1)).toNatClampNeg)
  refine lv_aload_n hx hb dL_law_1871 rfl (lv_at hl 3 rfl) ?_
  refine lv_aload_n hx hb dL_law_1872 rfl (lv_at hl 4 rfl) ?_
  refine lv_iload hx hb dL_law_1873 (lv_at hl 0 rfl) ?_
  refine lv_iconst (v := nI 1) hx hb dL_law_1875 (by decide +kernel) ?_
  refine lv_iadd hx hb dL_law_1876 ?_
  refine lv_toI (z := nI (i + 1)) (nI_add _ _) ?_
  refine va_sld hx hb hX hbl (Nat.not_le.mpr hbl) hS (vp_in_nI (by omega) (by omega)) dL_law_1877 ?_
  refine lv_aload_n hx hb dL_law_1878 rfl (lv_at hl 1 rfl) ?_
  refine lw_W (h := h) (X := X) (As := [.ref (AD 0), .int (xs (nI (i + 1)).toNatClampNeg), .ref (ou)]) (rest := []) S hw1 (vx_cwSW 3 hts gL_law_L_unnoticed rfl rfl rfl (by decide +kernel) ⟨Nat.le_of_ble_eq_true rfl, Nat.le_of_ble_eq_true rfl⟩) hK hZ hD hW hS rfl hl.1 rfl (Nat.le_of_ble_eq_true rfl) dL_law_1879 ⟨by show _ ≤ room_1.cells; omega, by show _ ≤ room_1.slots; omega⟩ (fun H hP hPm hO hS => ?_)
  refine lv_istore (lv' := [(5, .int (code)), (4, .int (nI i)), (3, .ref (ou)), (2, .ref (h)), (1, .ref (AD 0)), (0, .ref (b))]) hx hb dL_law_1882 hl (by decide) rfl (fun ls hl => ?_)
  refine lv_aload_n hx hb dL_law_1884 rfl (lv_at hl 3 rfl) ?_
  refine lv_aload_n hx hb dL_law_1885 rfl (lv_at hl 5 rfl) ?_
  refine lv_iload hx hb dL_law_1886 (lv_at hl 1 rfl) ?_
  refine lv_iconst (v := nI 1) hx hb dL_law_1888 (by decide +kernel) ?_
  refine lv_iadd hx hb dL_law_1889 ?_
  refine lv_toI (z := nI (i + 1)) (nI_add _ _) ?_
  refine va_sld hx hb hX hbl (Nat.not_le.mpr hbl) hS (vp_in_nI (by omega) (by omega)) dL_law_1890 ?_
  refine lw_M (As := [.int (xs (nI (i + 1)).toNatClampNeg)]) (rest := []) S hw2 (cwV 1 hts gL_law_X3_unnoticed rfl r2 r3 (by decide +kernel) ⟨by show rm.frames + 1 ≤ 12; omega, by show 8 + (2 + 11) + rm.locals ≤ 436; omega⟩) hK (va_recv hK.1 hPm (ci := 3) (q0 := 0) rfl rfl) hD hP hPm hO hS rfl hl.1 rfl (Nat.le_of_ble_eq_true rfl) dL_law_1891 ⟨by show _ ≤ room_1.cells; omega, by show _ ≤ room_1.slots; omega⟩ (fun H hW hS => ?_)
  refine lv_istore (lv' := [(6, .int (r)), (5, .int (code)), (4, .int (nI i)), (3, .ref (ou)), (2, .ref (h)), (1, .ref (AD 0)), (0, .ref (b))]) hx hb dL_law_1894 hl (by decide) rfl (fun ls hl => ?_)
  refine lv_aload_n hx hb dL_law_1896 rfl (lv_at hl 4 rfl) ?_
  refine p_V (As := []) (rest := []) S (c_X3_thrown l g h X V2 code lc2 ec2) (cwV 0 hts gL_law_X3_thrown rfl rfl rfl (by decide +kernel) ⟨Nat.le_of_ble_eq_true rfl, Nat.le_of_ble_eq_true rfl⟩) hK (va_recv hK.1 hW.2.1 (ci := 3) (q0 := 0) rfl rfl) hW.2.1 rfl hl.1 rfl (Nat.le_of_ble_eq_true rfl) dL_law_1897 ⟨by show _ ≤ room_1.cells; omega, by show _ ≤ room_1.slots; omega⟩ ?_
  refine lv_iload hx hb dL_law_1900 (lv_at hl 1 rfl) ?_
  refine lv_icmp_eq (tgt := 1907) hx hb dL_law_1902 (by decide) (fun _ => ?_) (fun z => absurd rfl z)
  refine lv_iload hx hb dL_law_1907 (lv_at hl 1 rfl) ?_
  refine lv_if_ne (tgt := 1924) hx hb dL_law_1909 (by decide) (fun cz => ?_) (fun cz => ?_)
  · exact W.widen (by omega) (by omega) (lv_goto (tgt := 2038) hx hb dL_law_1924 (by decide) (kk _ _ _ _ _ _ _ _ _ _ I2 hW hS (lv_sub hl [2, 3, 4, 5, 6] rfl)))
  refine lv_aload_n hx hb dL_law_1912 rfl (lv_at hl 3 rfl) ?_
  refine lv_iconst (v := 0) hx hb dL_law_1913 (by decide +kernel) ?_
  refine lw_gets hx hb hK hW.2.2 dL_law_1914 ?_
  refine lv_toJ (z := r.toInt64) (hv cz) ?_
  refine lv_iload hx hb dL_law_1915 (lv_at hl 0 rfl) ?_
  refine lv_i2l (v := r.toInt64) hx hb dL_law_1917 rfl ?_
  refine W.lcmp hx hb dL_law_1918 ?_
  refine lv_toI (z := 0) (cmp_eq _) ?_
  refine lv_if_eq (tgt := 1924) hx hb dL_law_1919 (by decide) (fun _ => ?_) (fun z => absurd rfl z)
  exact W.widen (by omega) (by omega) (lv_goto (tgt := 2038) hx hb dL_law_1924 (by decide) (kk _ _ _ _ _ _ _ _ _ _ I2 hW hS (lv_sub hl [2, 3, 4, 5, 6] rfl)))

set_option maxHeartbeats 4000000 in
set_option maxRecDepth 100000 in
theorem law_worstTear {p : Program} {e : Env} {s : State} {m : MethodId} {below : List Frame} {meth : Method} {c : Code} {Q : State → Prop} (l : Launch) (hlt : l.stackTraces = false) (g : gT) {b L : Nat} {xs : Nat → Int32} {AD : Nat → Nat} {h : Nat} {X : Nat → Nat} {ou : Nat} (hx : p.tables.exec = Jvm.exec) (hb : c.code = cL_law) (hml : c.maxLocals = 9) (hts : ∀ w ∈ wsL_law, w.before #[Value.ref b] s = true) (hown : s.vm.findClass RL = some m.cls) (hK : KK g s) (hZ : ZZ s s.heap) (hX : va_X b L xs s s.heap) (hbl : b < s.heap.size) (hL : L ≤ 2048) (hD : LD g (hiA s) AD h X ou)
    {LL : Nat → ltT} {EE : Nat → evT} {LN : Nat → Nat} {lc ec : Nat} {V : Nat → Nat → Int32} {th : Int32} {v : Int64} {H : Heap} {cells slots i : Nat} {ls : Array Slot} (I : Inv LL EE LN lc ec V) (hW : LW g AD LL EE lc ec h X V th ou v H) (hS : va_S (hiA s) s.heap H []) (hi : i + 4 ≤ L) (hcl : cells + 36 ≤ room_1.cells) (hsl : slots + 264 ≤ room_1.slots) (hl : lv_has ls 9 [(4, .int (nI i)), (3, .ref ou), (2, .ref h), (1, .ref (AD 0)), (0, .ref b)])
    (kk : ∀ (LL : Nat → ltT) (EE : Nat → evT) (LN : Nat → Nat) (lc ec : Nat) (V : Nat → Nat → Int32) (th : Int32) (v : Int64) (H : Heap) (ls : Array Slot), Inv LL EE LN lc ec V → LW g AD LL EE lc ec h X V th ou v H → va_S (hiA s) s.heap H [] → lv_has ls 9 [(4, .int (nI i)), (3, .ref ou), (2, .ref h), (1, .ref (AD 0)), (0, .ref b)] → W p l e room_1 s m #[Value.ref b] below meth c H [] (cells + 36) (slots + 264) Q (F0 m 2038 ls [])) : W p l e room_1 s m #[Value.ref b] below meth c H [] cells slots Q (F0 m 1927 ls []) := by
  have S : CallFix p m c cL_law 9 s #[Value.ref b] wsL_law RL := ⟨hx, hb, hml, hown, hts⟩
  obtain ⟨code, r, v2, LL2, EE2, LN2, lc2, ec2, V2, rm, hw1, ⟨r1, r2, r3, r4⟩, hw2, I2, hv⟩ := op_worstTear l hlt g AD h X LL EE LN lc ec V th ou v I (xs (nI (i + 1)).toNatClampNeg)
  refine lv_aload_n hx hb dL_law_1927 rfl (lv_at hl 3 rfl) ?_
  refine lv_aload_n hx hb dL_law_1928 rfl (lv_at hl 4 rfl) ?_
  refine lv_iload hx hb dL_law_1929 (lv_at hl 0 rfl) ?_
  refine lv_iconst (v := nI 1) hx hb dL_law_1931 (by decide +kernel) ?_
  refine lv_iadd hx hb dL_law_1932 ?_
  refine lv_toI (z := nI (i + 1)) (nI_add _ _) ?_
  refine va_sld hx hb hX hbl (Nat.not_le.mpr hbl) hS (vp_in_nI (by omega) (by omega)) dL_law_1933 ?_
  refine lv_aload_n hx hb dL_law_1934 rfl (lv_at hl 1 rfl) ?_
  refine lw_W (h := h) (X := X) (As := [.ref (AD 0), .int (xs (nI (i + 1)).toNatClampNeg), .ref (ou)]) (rest := []) S hw1 (vx_cwSW 3 hts gL_law_L_worstTear rfl rfl rfl (by decide +kernel) ⟨Nat.le_of_ble_eq_true rfl, Nat.le_of_ble_eq_true rfl⟩) hK hZ hD hW hS rfl hl.1 rfl (Nat.le_of_ble_eq_true rfl) dL_law_1935 ⟨by show _ ≤ room_1.cells; omega, by show _ ≤ room_1.slots; omega⟩ (fun H hP hPm hO hS => ?_)
  refine lv_istore (lv' := [(5, .int (code)), (4, .int (nI i)), (3, .ref (ou)), (2, .ref (h)), (1, .ref (AD 0)), (0, .ref (b))]) hx hb dL_law_1938 hl (by decide) rfl (fun ls hl => ?_)
  refine lv_aload_n hx hb dL_law_1940 rfl (lv_at hl 3 rfl) ?_
  refine lv_aload_n hx hb dL_law_1941 rfl (lv_at hl 5 rfl) ?_
  refine lv_iload hx hb dL_law_1942 (lv_at hl 1 rfl) ?_
  refine lv_iconst (v := nI 1) hx hb dL_law_1944 (by decide +kernel) ?_
  refine lv_iadd hx hb dL_law_1945 ?_
  refine lv_toI (z := nI (i + 1)) (nI_add _ _) ?_
  refine va_sld hx hb hX hbl (Nat.not_le.mpr hbl) hS (vp_in_nI (by omega) (by omega)) dL_law_1946 ?_
  refine lw_M (As := [.int (xs (nI (i + 1)).toNatClampNeg)]) (rest := []) S hw2 (cwV 1 hts gL_law_X3_worstTear rfl r2 r3 (by decide +kernel) ⟨by show rm.frames + 1 ≤ 12; omega, by show 8 + (2 + 11) + rm.locals ≤ 436; omega⟩) hK (va_recv hK.1 hPm (ci := 3) (q0 := 0) rfl rfl) hD hP hPm hO hS rfl hl.1 rfl (Nat.le_of_ble_eq_true rfl) dL_law_1947 ⟨by show _ ≤ room_1.cells; omega, by show _ ≤ room_1.slots; omega⟩ (fun H hW hS => ?_)
  refine lv_istore (lv' := [(6, .int (r)), (5, .int (code)), (4, .int (nI i)), (3, .ref (ou)), (2, .ref (h)), (1, .ref (AD 0)), (0, .ref (b))]) hx hb dL_law_1950 hl (by decide) rfl (fun ls hl => ?_)
  refine lv_aload_n hx hb dL_law_1952 rfl (lv_at hl 4 rfl) ?_
  refine p_V (As := []) (rest := []) S (c_X3_thrown l g h X V2 code lc2 ec2) (cwV 0 hts gL_law_X3_thrown rfl rfl rfl (by decide +kernel) ⟨Nat.le_of_ble_eq_true rfl, Nat.le_of_ble_eq_true rfl⟩) hK (va_recv hK.1 hW.2.1 (ci := 3) (q0 := 0) rfl rfl) hW.2.1 rfl hl.1 rfl (Nat.le_of_ble_eq_true rfl) dL_law_1953 ⟨by show _ ≤ room_1.cells; omega, by show _ ≤ room_1.slots; omega⟩ ?_
  refine lv_iload hx hb dL_law_1956 (lv_at hl 1 rfl) ?_
  refine lv_icmp_eq (tgt := 1963) hx hb dL_law_1958 (by decide) (fun _ => ?_) (fun z => absurd rfl z)
  refine lv_iload hx hb dL_law_1963 (lv_at hl 1 rfl) ?_
  refine lv_if_ne (tgt := 1980) hx hb dL_law_1965 (by decide) (fun cz => ?_) (fun cz => ?_)
  · exact W.widen (by omega) (by omega) (lv_goto (tgt := 2038) hx hb dL_law_1980 (by decide) (kk _ _ _ _ _ _ _ _ _ _ I2 hW hS (lv_sub hl [2, 3, 4, 5, 6] rfl)))
  refine lv_aload_n hx hb dL_law_1968 rfl (lv_at hl 3 rfl) ?_
  refine lv_iconst (v := 0) hx hb dL_law_1969 (by decide +kernel) ?_
  refine lw_gets hx hb hK hW.2.2 dL_law_1970 ?_
  refine lv_toJ (z := r.toInt64) (hv cz) ?_
  refine lv_iload hx hb dL_law_1971 (lv_at hl 0 rfl) ?_
  refine lv_i2l (v := r.toInt64) hx hb dL_law_1973 rfl ?_
  refine W.lcmp hx hb dL_law_1974 ?_
  refine lv_toI (z := 0) (cmp_eq _) ?_
  refine lv_if_eq (tgt := 1980) hx hb dL_law_1975 (by decide) (fun _ => ?_) (fun z => absurd rfl z)
  exact W.widen (by omega) (by omega) (lv_goto (tgt := 2038) hx hb dL_law_1980 (by decide) (kk _ _ _ _ _ _ _ _ _ _ I2 hW hS (lv_sub hl [2, 3, 4, 5, 6] rfl)))
