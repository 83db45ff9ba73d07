/-! LAYER, fourth: arrays of objects; reading methods that answer a cell or nothing; methods that always throw -/
section DLAY
variable {p : Program} {l : Launch} {e : Env} {R : Room} {s : State} {m : MethodId} {args : Array Value} {below : List Frame} {meth : Method} {c : Code} {H : Heap} {locs : List Loc} {cells slots : Nat} {Q : State → Prop}
variable {pc : Nat} {ls : Array Slot} {rest st0 : List Value} {a : Array Value} {cc : ByteArray}
theorem ld_Q {D : va_G} {cl : List vw_C} {tys : List (ClassId × FieldType)} {ws : va_W} {a : Nat} {cA : ClassId} {C : String} {k n r : Nat} {f : Nat → Option Nat} (hexec : p.tables.exec = Jvm.exec) (hb : c.code = cc) (hK : va_K D cl tys s) (hP : va_P D cl ws H) (q0 t0 : Nat) (ha : ws[q0]? = some (a, .inl (cA, n, .inr (.inr (.inr (.inr f)))))) (ht : tys[t0]? = some (cA, .object C)) (hk : k < n) (hn : n < 2 ^ 31) (hf : f k = some r) (hdg : decode cc pc = .ok (.aaload, 1))
    (kk : W p l e R s m args below meth c H locs cells slots Q (F0 m (pc + 1) ls (.ref r :: rest))) : W p l e R s m args below meth c H locs cells slots Q (F0 m pc ls (.int (nI k) :: .ref a :: rest)) := by
  refine va_aldq hexec hb hK hP q0 t0 ha ht (vp_in_nI hk hn) hdg ?_
  rw [nI_clamp (Nat.lt_trans hk hn), hf]
  exact kk
end DLAY
def pQv : Array Value → State → Outcome → State → Prop := fun _ st oc t => oc = .returned none ∧ t.heap = st.heap
abbrev pMv (g : gT) (l : Launch) (y : MethodName) (ws : List Cond) (rm : Room) (av : List Value) (PH : Heap → Prop) : Prop := Met l y ws rm (pPc g av PH) pQv 0 0 (fun _ => False)
section DLAY2
variable {p : Program} {l : Launch} {e : Env} {R : Room} {s : State} {m : MethodId} {args : Array Value} {below : List Frame} {meth : Method} {c : Code} {H : Heap} {locs : List Loc} {cells slots : Nat} {Q : State → Prop}
variable {pc : Nat} {ls : Array Slot} {rest st0 : List Value} {a : Array Value}
theorem p_callv (hr : CallRun p l e R s m args below meth c H locs cells slots 0 0 (F0 m pc ls st0) rest (pQv a) (fun _ => False)) (kk : W p l e R s m args below meth c H locs cells slots Q (F0 m (pc + 3) ls rest)) : W p l e R s m args below meth c H locs cells slots Q (F0 m pc ls st0) := by
  intro T hT X
  obtain ⟨v9, st₀, t, T', L, h0, X', hL, e1, ⟨hv, hh⟩, st⟩ := hr T hT X
  cases hv
  obtain ⟨t2, a1, b1⟩ := kk T' (by rw [e1, hh, h0]) (Stand.forget X' (fun q h => (hL q h).elim))
  exact ⟨t2, st t2 a1, b1⟩
variable {g : gT} {y : MethodName} {bytes cc : ByteArray} {maxL nL n index : Nat} {ret : Option FieldType} {ws ws' : List Cond} {rm : Room} {PH : Heap → Prop} {Ts : List Cond} {own C : String} {b : Addr} {As : List Value}
theorem p_Vv (S : CallFix p m c cc nL s args Ts own) (hM : pMv g l y ws rm (.ref b :: As) PH) (cw : CallW R s args own C index y bytes maxL ret ws rm 0 0 n) (hK : KK g s) (hrec : ∃ cellB : Cell, H[b]? = some cellB ∧ cellB.vm.isStatics = false ∧ s.vm.findClass C = some cellB.cls) (hPH : PH H) (hn : As.length = n) (hsize : ls.size = nL) (hst : st0 = As.reverse ++ .ref b :: rest) (hW : (rest.map fun v => v.category).sum ≤ 8) (hdg : decode cc pc = .ok (.invokevirtual index, 3)) (hf : cells + 0 ≤ R.cells ∧ slots + 0 ≤ R.slots)
    (kk : W p l e R s m args below meth c H locs cells slots Q (F0 m (pc + 3) ls rest)) : W p l e R s m args below meth c H locs cells slots Q (F0 m pc ls st0) :=
  p_callv (W.runV S hM cw ⟨pPc_blind, hrec, fun U hU hWm => ⟨rfl, hK.warm hWm, by rw [hU]; exact hPH⟩⟩ rfl hn hsize hst (lv_room hW) hdg hf) kk
theorem p_Sv (S : CallFix p m c cc nL s args Ts own) (hM : pMv g l y ws rm As PH) (cw : CallB R s args own index y bytes maxL ret ws rm 0 0 n ∧ (Cond.static y).before args s = true) (hK : KK g s) (hPH : PH H) (hn : As.length = n) (hsize : ls.size = nL) (hst : st0 = As.reverse ++ rest) (hW : (rest.map fun v => v.category).sum ≤ 8) (hdg : decode cc pc = .ok (.invokestatic index, 3)) (hf : cells + 0 ≤ R.cells ∧ slots + 0 ≤ R.slots)
    (kk : W p l e R s m args below meth c H locs cells slots Q (F0 m (pc + 3) ls rest)) : W p l e R s m args below meth c H locs cells slots Q (F0 m pc ls st0) :=
  p_callv (W.runS S hM cw ⟨pPc_blind, fun U hU hWm => ⟨rfl, hK.warm hWm, by rw [hU]; exact hPH⟩⟩ rfl hn hsize hst (lv_room hW) hdg hf) kk
end DLAY2
def pvBody (g : gT) (l : Launch) (y : MethodName) (ws : List Cond) (rm : Room) (av : List Value) (PH : Heap → Prop) (cc : ByteArray) (maxL : Nat) : Prop :=
  ∀ (p : Program) (e : Env) (s : State) (m : MethodId) (args : Array Value) (below : List Frame) (meth : Method) (c : Code) (H : Heap) (ls : Array Slot) (Q : State → Prop),
    p.tables.exec = Jvm.exec → c.code = cc → c.maxLocals = maxL → (∀ w ∈ ws, w.before args s = true) → s.vm.findClass y.cls = some m.cls → KK g s → PH H → lv_has ls maxL (lv_args 0 av) →
    (∀ (pc : Nat) (ls : Array Slot), decode cc pc = .ok (.return_, 1) → W p l e rm s m args below meth c H [] 0 0 Q (F0 m pc ls [])) →
    W p l e rm s m args below meth c H [] 0 0 Q (F0 m 0 ls [])
section DLAY3
variable {g : gT} {l : Launch} {y : MethodName} {ws ws' : List Cond} {rm : Room} {av : List Value} {PH : Heap → Prop} {cc : ByteArray} {maxL : Nat}
theorem pu_ofV (hy : plainName y.cls = true) (hw : ws = Cond.code y cc maxL none :: ws') (hlen : (lg_sl av).length ≤ maxL) (body : pvBody g l y ws rm av PH cc maxL) : pMv g l y ws rm av PH := by
  refine Met.ofW (cc := cc) (maxL := maxL) (ret := none) hy hw ?_
  intro p e s m args below meth c s₁ B hml hv
  obtain ⟨rfl, hK, hPH⟩ := hv
  have hl := lv_entry av (n := maxL) hlen
  rw [lg_entry_eq]
  exact body p e s m _ below meth c s.heap _ _ B.exec B.bytes hml (atoms_spec B.pre) (findClass_of_methodNamed B.named) hK hPH hl (fun pc ls hd => W.vret B.exec B.bytes B.returns (fun t ht _ => ⟨rfl, ht⟩) (fun q h => absurd h List.not_mem_nil) hd B.notSynchronized)
theorem pu_ofA {x : Nat} {nm : String} (hy : plainName y.cls = true) (hw : ws = Cond.code y cc maxL (some (.object nm)) :: ws') (hlen : (lg_sl av).length ≤ maxL) (body : pBody g l y ws rm av PH cc maxL .areturn (.ref x)) : pM g l y ws rm av PH (.ref x) := by
  refine Met.ofW (cc := cc) (maxL := maxL) (ret := some (.object nm)) hy hw ?_
  intro p e s m args below meth c s₁ B hml hv
  obtain ⟨rfl, hK, hPH⟩ := hv
  have hl := lv_entry av (n := maxL) hlen
  rw [lg_entry_eq]
  exact body p e s m _ below meth c s.heap _ _ B.exec B.bytes hml (atoms_spec B.pre) (findClass_of_methodNamed B.named) hK hPH hl (fun pc ls hd => W.aret B.exec B.bytes B.returns (Or.inl ⟨_, rfl⟩) (Or.inr ⟨_, rfl⟩) (fun t ht _ => ⟨rfl, ht⟩) (fun q h => absurd h List.not_mem_nil) hd B.notSynchronized)
theorem pu_ofJ {x : Int64} (hy : plainName y.cls = true) (hw : ws = Cond.code y cc maxL (some .long) :: ws') (hlen : (lg_sl av).length ≤ maxL) (body : pBody g l y ws rm av PH cc maxL .lreturn (.long x)) : pM g l y ws rm av PH (.long x) := by
  refine Met.ofW (cc := cc) (maxL := maxL) (ret := some .long) hy hw ?_
  intro p e s m args below meth c s₁ B hml hv
  obtain ⟨rfl, hK, hPH⟩ := hv
  have hl := lv_entry av (n := maxL) hlen
  rw [lg_entry_eq]
  exact body p e s m _ below meth c s.heap _ _ B.exec B.bytes hml (atoms_spec B.pre) (findClass_of_methodNamed B.named) hK hPH hl (fun pc ls hd => W.lret B.exec B.bytes B.returns (fun t ht _ => ⟨rfl, ht⟩) (fun q h => absurd h List.not_mem_nil) hd B.notSynchronized)
theorem pu_ofD {x : UInt64} (hy : plainName y.cls = true) (hw : ws = Cond.code y cc maxL (some .double) :: ws') (hlen : (lg_sl av).length ≤ maxL) (body : pBody g l y ws rm av PH cc maxL .dreturn (.double x)) : pM g l y ws rm av PH (.double x) := by
  refine Met.ofW (cc := cc) (maxL := maxL) (ret := some .double) hy hw ?_
  intro p e s m args below meth c s₁ B hml hv
  obtain ⟨rfl, hK, hPH⟩ := hv
  have hl := lv_entry av (n := maxL) hlen
  rw [lg_entry_eq]
  exact body p e s m _ below meth c s.heap _ _ B.exec B.bytes hml (atoms_spec B.pre) (findClass_of_methodNamed B.named) hK hPH hl (fun pc ls hd => W.dret B.exec B.bytes B.returns (fun t ht _ => ⟨rfl, ht⟩) (fun q h => absurd h List.not_mem_nil) hd B.notSynchronized)
end DLAY3
/-! methods that always throw: the class E; the heap grows, no old cell changes -/
def ZZ (U : State) (H : Heap) : Prop := vx_Zq Bundle.tN "UNASSIGNED_STACK" Bundle.steD (fun _ => False) U H ∧ vx_Zq Bundle.tN "SUPPRESSED_SENTINEL" Bundle.listD (fun _ => False) U H
theorem ZZ.moved {u U : State} {H : Heap} (hvm : u.vm.Alike U.vm) (h : ZZ u H) : ZZ U H := ⟨vx_Zq.moved hvm h.1, vx_Zq.moved hvm h.2⟩
def xPc (g : gT) (av : List Value) (PH : Heap → Prop) : Array Value → State → Prop := va_Pc av (fun U => KK g U ∧ PH U.heap ∧ ZZ U U.heap)
def xX (E : String) : String → State → State → Prop := fun E' st t => E' = E ∧ st.heap.size ≤ t.heap.size ∧ ∀ q : Nat, q < st.heap.size → t.heap[q]? = st.heap[q]?
def xN : Array Value → State → Outcome → State → Prop := fun _ _ _ _ => False
abbrev xM (g : gT) (l : Launch) (y : MethodName) (ws : List Cond) (rm : Room) (av : List Value) (PH : Heap → Prop) (E : String) : Prop := vx_Met l y ws rm (xPc g av PH) xN (xX E) 1 6 (fun _ => False)
theorem xPc_blind {g : gT} {av : List Value} {PH : Heap → Prop} : FrameBlind (xPc g av PH) := fun a U f mk h => ⟨h.1, h.2.1.calling, h.2.2.1, ZZ.moved (u := U) (U := U.calling f mk a) (Vm.Alike.refl U.vm) h.2.2.2⟩
section XLAY
variable {p : Program} {l : Launch} {e : Env} {R : Room} {s : State} {m : MethodId} {args : Array Value} {below : List Frame} {meth : Method} {c : Code} {locs : List Loc} {cells slots : Nat}
variable {pc : Nat} {ls : Array Slot} {rest st0 : List Value} {E : String}
variable {g : gT} {y : MethodName} {bytes cc : ByteArray} {maxL nL n index : Nat} {ret : Option FieldType} {ws ws' : List Cond} {rm : Room} {PH : Heap → Prop} {Ts : List Cond} {own C : String} {b : Addr} {As av : List Value}
theorem xr_of (hy : plainName y.cls = true) (hw : ws = Cond.code y cc maxL ret :: ws') (hlen : (lg_sl av).length ≤ maxL)
    (body : ∀ (p : Program) (e : Env) (s : State) (m : MethodId) (args : Array Value) (below : List Frame) (meth : Method) (c : Code) (ls : Array Slot), p.tables.exec = Jvm.exec → c.code = cc → c.maxLocals = maxL → (∀ w ∈ ws, w.before args s = true) → s.vm.findClass y.cls = some m.cls → KK g s → PH s.heap → ZZ s s.heap → meth.locks = false → (∀ x ∈ c.exceptionTable.toList, False) → lv_has ls maxL (lv_args 0 av) →
      W p l e rm s m args below meth c s.heap [] 0 0 (vx_MQ below xN (xX E) args s 1 6 (fun _ => False)) (F0 m 0 ls [])) : xM g l y ws rm av PH E := by
  refine vx_ofW (cc := cc) (maxL := maxL) (ret := ret) hy hw ?_
  intro p e s m args below meth c s₁ B hml ht hv
  obtain ⟨rfl, hK, hPH, hZ⟩ := hv
  have hl := lv_entry av (n := maxL) hlen
  rw [lg_entry_eq]
  exact body p e s m _ below meth c _ B.exec B.bytes hml (atoms_spec B.pre) (findClass_of_methodNamed B.named) hK hPH hZ B.notSynchronized ht hl
theorem x_leave {a : Array Value} (hr : vx_Run p l e R s m args below meth c s.heap [] 0 0 1 6 (F0 m pc ls st0) rest (xN a) (xX E) (fun _ => False)) (ht : ∀ x ∈ c.exceptionTable.toList, False) (hlocks : meth.locks = false) : W p l e R s m args below meth c s.heap [] 0 0 (vx_MQ below xN (xX E) args s 1 6 (fun _ => False)) (F0 m pc ls st0) := by
  intro T hT X
  rcases hr T hT X with ⟨v, st₀, t, T', L, h0, X', hL, e1, e2, hq, st⟩ | ⟨q, st₀, t, T', L, E', ce, h0, X', hL, e1, e2, ⟨hE, hz, hk⟩, hce, hcv, hcl, st⟩
  · exact hq.elim
  · rw [h0] at hz hk
    obtain ⟨t2, a1, b1⟩ := (vx_out (p := p) (l := l) (e := e) (R := R) (s := s) (m := m) (args := args) (below := below) (meth := meth) (c := c) (H := T'.heap) (locs := [] ++ L) (cells := 0 + 1) (slots := 0 + 6) (Qc := xN) (XC := xX E) (pc := pc) (ls := ls) (rest := rest) (mc := 1) (ms := 6) (free := fun _ => False) (fun x h => (ht x h).elim) hlocks (by rw [e1]; exact hce) hcv hcl
      (fun t9 h9 _ => ⟨hE, by rw [h9, e1]; exact hz, fun q9 hq9 => by rw [h9, e1]; exact hk q9 hq9⟩) (fun z hz9 => hL z hz9) (Nat.le_refl _) (Nat.le_refl _)) T' rfl X'
    exact ⟨t2, st.trans a1, b1⟩
theorem x_V (S : CallFix p m c cc nL s args Ts own) (hM : xM g l y ws rm (.ref b :: As) PH E) (cw : CallW R s args own C index y bytes maxL ret ws rm 1 6 n) (hK : KK g s) (hZ : ZZ s s.heap) (hrec : ∃ cellB : Cell, s.heap[b]? = some cellB ∧ cellB.vm.isStatics = false ∧ s.vm.findClass C = some cellB.cls) (hPH : PH s.heap) (hn : As.length = n) (hsize : ls.size = nL) (hst : st0 = As.reverse ++ .ref b :: rest) (hW : (rest.map fun v => v.category).sum ≤ 8) (hdg : decode cc pc = .ok (.invokevirtual index, 3)) (hf : 0 + 1 ≤ R.cells ∧ 0 + 6 ≤ R.slots) (ht : ∀ x ∈ c.exceptionTable.toList, False) (hlocks : meth.locks = false) :
    W p l e R s m args below meth c s.heap [] 0 0 (vx_MQ below xN (xX E) args s 1 6 (fun _ => False)) (F0 m pc ls st0) :=
  x_leave (vx_runV S hM cw ⟨xPc_blind, hrec, fun U hU hWm => ⟨rfl, hK.warm hWm, by rw [hU]; exact hPH, by rw [hU]; exact hZ.moved hWm.alike⟩⟩ rfl hn hsize hst (lv_room hW) hdg hf) ht hlocks
theorem x_S (S : CallFix p m c cc nL s args Ts own) (hM : xM g l y ws rm As PH E) (cw : CallB R s args own index y bytes maxL ret ws rm 1 6 n ∧ (Cond.static y).before args s = true) (hK : KK g s) (hZ : ZZ s s.heap) (hPH : PH s.heap) (hn : As.length = n) (hsize : ls.size = nL) (hst : st0 = As.reverse ++ rest) (hW : (rest.map fun v => v.category).sum ≤ 8) (hdg : decode cc pc = .ok (.invokestatic index, 3)) (hf : 0 + 1 ≤ R.cells ∧ 0 + 6 ≤ R.slots) (ht : ∀ x ∈ c.exceptionTable.toList, False) (hlocks : meth.locks = false) :
    W p l e R s m args below meth c s.heap [] 0 0 (vx_MQ below xN (xX E) args s 1 6 (fun _ => False)) (F0 m pc ls st0) :=
  x_leave (vx_runS S hM cw ⟨xPc_blind, fun U hU hWm => ⟨rfl, hK.warm hWm, by rw [hU]; exact hPH, by rw [hU]; exact hZ.moved hWm.alike⟩⟩ rfl hn hsize hst (lv_room hW) hdg hf) ht hlocks
abbrev xNm : List String := ["java/lang/RuntimeException", "java/lang/Exception"]
theorem x_throw {text : String} {ik is ic : Nat} (hexec : p.tables.exec = Jvm.exec) (hb : c.code = cc) (hlt : l.stackTraces = false) (hown : s.vm.findClass RX2 = some m.cls) (hts : ∀ w ∈ Ts, w.before args s = true) (hfit : Bundle.fit E = true) (hk : Cond.classLink RX2 ik E ∈ Ts) (hini : Cond.initialized E ∈ Ts) (hgw : ∀ w ∈ (vx_atS RX2 ic E xNm).filter goodWord, w ∈ Ts)
    (hng : ∀ w ∈ (vx_atS RX2 ic E xNm).filter (fun w => !goodWord w), w ∈ Cond.castable E E :: declL.map Cond.declares) (hot : ∀ w ∈ Cond.classLink RX2 ik E :: Cond.initialized E :: vx_atS RX2 ic E xNm, vx_ot w = true) (hK : KK g s) (hcast : (E, E) ∈ castL) (hstr : (is, text) ∈ strW) (hZ : ZZ s s.heap) (hsize : ls.size = c.maxLocals)
    (d0 : decode cc pc = .ok (.new ik, 3)) (d3 : decode cc (pc + 3) = .ok (.dup, 1)) (d4 : decode cc (pc + 4) = .ok (.ldc is, 2)) (d6 : decode cc (pc + 6) = .ok (.invokespecial ic, 3)) (d9 : decode cc (pc + 9) = .ok (.athrow, 1))
    (ht : ∀ x ∈ c.exceptionTable.toList, False) (hRf : 6 ≤ R.frames) (hRl : (rest.map fun v => v.category).sum + 82 ≤ R.locals) (hRc : 1 ≤ R.cells) (hRs : 6 ≤ R.slots) (hlocks : meth.locks = false) :
    W p l e R s m args below meth c s.heap [] 0 0 (vx_MQ below xN (xX E) args s 1 6 (fun _ => False)) (F0 m pc ls rest) := by
  obtain ⟨sa, hsa⟩ := hK.2.2.2.1 (is, text) hstr
  refine vx_throwS (own := RX2) (cls := E) (text := text) (names := xNm) (ik := ik) (is := is) (ic := ic) (sa := sa) (A := fun _ => False) hexec hb hlt hown hfit (by decide +kernel) (hts _ hk) (hts _ hini) hsa
    (vx_hat (B := Cond.castable E E :: declL.map Cond.declares) (fun w hw => hts w (hgw w hw)) hng (vx_c (va_Nw.use rfl (hK.2.2.2.2.2.1 (E, E) hcast)) (fun w hw => by
      obtain ⟨x, hx, rfl⟩ := List.mem_map.mp hw
      exact va_Nw.use rfl (hK.2.2.2.2.1 x hx)))) hot hZ.1 hZ.2 va_S.rf hsize d0 d3 d4 d6 d9 (fun x h => (ht x h).elim) (by show 2 + 3 < R.frames; omega) (by show _ + (13 * (2 + 1) + 43) ≤ _; omega) (by omega) (by omega) hlocks (fun t _ h1 h2 => ⟨rfl, h1, h2⟩) (fun z h => nomatch h) (Nat.le_refl _) (Nat.le_refl _)
end XLAY
section WLAY3
variable {p : Program} {l : Launch} {e : Env} {R : Room} {s : State} {m : MethodId} {args : Array Value} {below : List Frame} {meth : Method} {c : Code} {H : Heap} {locs : List Loc} {cells slots : Nat} {Q : State → Prop}
variable {pc : Nat} {ls : Array Slot} {rest st0 : List Value} {a : Array Value} {A0 : Nat → Prop} {H0 : Heap}
variable {g : gT} {y : MethodName} {bytes cc : ByteArray} {maxL nL n index : Nat} {ret : Option FieldType} {ws ws' : List Cond} {rm : Room} {cs cs' : va_W} {v : Option Value} {Ts : List Cond} {own C : String} {b : Addr} {As : List Value}
theorem w_S (S : CallFix p m c cc nL s args Ts own) (hM : wM g l y ws rm As cs v cs') (cw : CallB R s args own index y bytes maxL ret ws rm 0 0 n ∧ (Cond.static y).before args s = true) (hK : KK g s) (hP : va_P (gD g) vwCl cs H) (hD : va_D (fun _ => True) cs) (hS : va_S A0 H0 H locs) (hA : ∀ q, wA cs q → A0 q) (hn : As.length = n) (hsize : ls.size = nL) (hst : st0 = As.reverse ++ rest) (hW : (rest.map fun v => v.category).sum ≤ 8) (hdg : decode cc pc = .ok (.invokestatic index, 3)) (hf : cells + 0 ≤ R.cells ∧ slots + 0 ≤ R.slots)
    (kk : ∀ (H1 : Heap) (locs1 : List Loc), va_P (gD g) vwCl cs' H1 → H.size ≤ H1.size → (∀ q : Nat, q < H.size → ¬ wA cs q → H1[q]? = H[q]?) → va_S A0 H0 H1 locs1 → W p l e R s m args below meth c H1 locs1 cells slots Q (F0 m (pc + 3) ls (v.toList ++ rest))) : W p l e R s m args below meth c H locs cells slots Q (F0 m pc ls st0) :=
  w_call (va_runS S hM cw ⟨wPc_blind, fun U hU hWm => ⟨rfl, hK.warm hWm, by rw [hU]; exact hP, hD⟩⟩ rfl hn hsize hst (lv_room hW) hdg hf) hS hA kk
end WLAY3
theorem dk_setP {g : gT} {AD : Nat → Nat} {LL : Nat → ltT} {EE : Nat → evT} {lc ec lc2 ec2 : Nat} {H : Heap} {fs : List Value} (hP : va_P (gD g) vwCl ((wsD g AD LL EE lc ec).set 0 (AD 0, .inr (2, fs))) H) (h : fs = [.ref (AD 1), .ref (AD 2), .int (nI lc2), .int (nI ec2)]) : va_P (gD g) vwCl (wsD g AD LL EE lc2 ec2) H := by
  rw [dk_set fs h] at hP
  exact hP
theorem inB_yes {x : Int32} {n : Nat} (h1 : ¬ x < 0) (h2 : x < nI n) : inB x n = true := by
  unfold inB
  rw [decide_eq_true (Int32.not_lt.mp h1), decide_eq_true h2]
  rfl
def ssV (f : Nat → Int32) (t : Nat) (fl : Bool) (n : Nat) : Int32 := if t ≤ n then prC (pcP f t fl) (n - t + 1) (n - t + 1) else 0
def wnV (f w : Nat → Int32) (t n : Nat) : Nat → Int32 := if t ≤ n then flF w (fun o => wnF f o t) (n - t + 1) else w
theorem c_X1_sameSumPairsU (l : Launch) (g : gT) (h a b : Nat) (f w : Nat → Int32) (n : Nat) (hn : n ≤ 40) (t : Nat) (ht : 1 ≤ t) (ht4 : t ≤ 40) : wM g l yX1_sameSumPairs wsX1_sameSumPairs { frames := 2, cells := 0, slots := 0, locals := 47 } [.ref h, .int (nI t)] (ltW g h a b f w n) (some (.int (ssV f t false n))) (ltW g h a b f (wnV f w t n) n) := by
  unfold ssV wnV
  by_cases q : t ≤ n
  · rw [if_pos q, if_pos q]
    exact c_X1_sameSumPairs l g h a b f w n hn t ht q
  · rw [if_neg q, if_neg q]
    exact c_X1_sameSumPairs0 l g h a b f w n hn t ht4 (Nat.lt_of_not_le q)
theorem c_X1_falseAlarmPairsU (l : Launch) (g : gT) (h a b : Nat) (f w : Nat → Int32) (n : Nat) (hn : n ≤ 40) (t : Nat) (ht : 1 ≤ t) (ht4 : t ≤ 40) : wM g l yX1_falseAlarmPairs wsX1_falseAlarmPairs { frames := 2, cells := 0, slots := 0, locals := 47 } [.ref h, .int (nI t)] (ltW g h a b f w n) (some (.int (ssV f t true n))) (ltW g h a b f (wnV f w t n) n) := by
  unfold ssV wnV
  by_cases q : t ≤ n
  · rw [if_pos q, if_pos q]
    exact c_X1_falseAlarmPairs l g h a b f w n hn t ht q
  · rw [if_neg q, if_neg q]
    exact c_X1_falseAlarmPairs0 l g h a b f w n hn t ht4 (Nat.lt_of_not_le q)
def lsD (EE : Nat → evT) (ec : Nat) : Int32 := if ec = 0 then 1 else (EE (ec - 1)).2.2.2.2.2.2.1
def dbD (LL : Nat → ltT) (a b : Nat) : Bool := decide (dgF (LL b).1 (LL b).2.2 = dgF (LL a).1 (LL a).2.2) && !(decide ((LL a).2.2 = (LL b).2.2) && eqR (LL a).1 0 (LL b).1 0 (LL a).2.2)
theorem dbD_no {LL : Nat → ltT} {a b : Nat} (h : (¬ dgF (LL b).1 (LL b).2.2 = dgF (LL a).1 (LL a).2.2) ∨ (decide ((LL a).2.2 = (LL b).2.2) && eqR (LL a).1 0 (LL b).1 0 (LL a).2.2) = true) : ¬ dbD LL a b = true := by
  unfold dbD
  rcases h with h | h
  · rw [decide_eq_false h]; simp
  · rw [h]; simp
theorem dbD_yes {LL : Nat → ltT} {a b : Nat} (h : dgF (LL b).1 (LL b).2.2 = dgF (LL a).1 (LL a).2.2) (h2 : (decide ((LL a).2.2 = (LL b).2.2) && eqR (LL a).1 0 (LL b).1 0 (LL a).2.2) = false) : dbD LL a b = true := by
  unfold dbD
  rw [decide_eq_true h, h2]
  rfl
def ftD (LL : Nat → ltT) (EE : Nat → evT) (LN : Nat → Nat) (q : Nat) : Bool := decide (dgF (LL (LN q)).1 (LL (LN q)).2.2 = (EE q).2.1)
def toD (LL : Nat → ltT) (EE : Nat → evT) (LN : Nat → Nat) (q : Nat) : Nat → Bool := toC (EE q).2.2.2.1 (LL (LN q)).2.2 (LL (LN q)).1 (EE q).2.2.2.2.2.2.2
def chD (LL : Nat → ltT) (EE : Nat → evT) (LN : Nat → Nat) (q : Nat) : Int32 := chC (ftD LL EE LN q) (EE q).2.2.1 (LL (LN q)).2.2 ((EE q).2.2.2.2.1 - smF (LL (LN q)).1 (LL (LN q)).2.2) ((EE q).2.2.2.2.2.1 - wtF (LL (LN q)).1 (LL (LN q)).2.2) (LL (LN q)).1
def wlJ (d : Int64) (f : Nat → Int32) (n : Nat) : Int64 := (((((((d * 31 + (nI n).toInt64) * 31 + (cntF f 27 n).toInt64) * 31 + (cntF f 30 n).toInt64) * 31 + (dgF f n).toInt64) * 31 + (ssV f 2 false n).toInt64) * 31 + (ssV f 2 true n).toInt64) * 31 + (unF f n).toInt64) * 31 + ((wkS f n (dgF f n) n).1).toInt64
def weJ (d : Int64) (LL : Nat → ltT) (EE : Nat → evT) (LN : Nat → Nat) (q : Nat) : Int64 := ((((((d * 31 + (nI (LN q)).toInt64) * 31 + ((EE q).2.1).toInt64) * 31 + ((EE q).2.2.2.2.2.2.1).toInt64) * 31 + (bI (ftD LL EE LN q)).toInt64) * 31 + (acF (toD LL EE LN q) 0 8).toInt64) * 31 + (fsF (toD LL EE LN q) 8 0).toInt64) * 31 + (chD LL EE LN q).toInt64
def djL (LL : Nat → ltT) (x : Int64) : Nat → Int64
  | 0 => x
  | i + 1 => wlJ (djL LL x i) (LL i).1 (LL i).2.2
def djE (LL : Nat → ltT) (EE : Nat → evT) (LN : Nat → Nat) (x : Int64) : Nat → Int64
  | 0 => x
  | i + 1 => weJ (djE LL EE LN x i) LL EE LN i
def dj0 (LL : Nat → ltT) (EE : Nat → evT) (LN : Nat → Nat) (lc ec : Nat) : Int64 := (((1979 * 31 + (nI lc).toInt64) * 31 + (nI ec).toInt64) * 31 + (prC (dbD LL) lc lc).toInt64) * 31 + (fsF (fun q => !ftD LL EE LN q) ec 0).toInt64
def dgU (u : ltT) : ltT := (u.1, wnV u.1 (wnV u.1 u.2.1 2 u.2.2) 2 u.2.2, u.2.2)
def dgL (LL : Nat → ltT) (i : Nat) : Nat → ltT := fun j => if j < i then dgU (LL j) else LL j
theorem dgL_0 (LL : Nat → ltT) : dgL LL 0 = LL := by
  funext j
  exact if_neg (Nat.not_lt_zero j)
theorem dgL_at (LL : Nat → ltT) (i : Nat) : dgL LL i i = LL i := if_neg (Nat.lt_irrefl i)
theorem dgL_up (LL : Nat → ltT) (i : Nat) : fup (dgL LL i) i (dgU (LL i)) = dgL LL (i + 1) := by
  funext j
  unfold fup dgL
  by_cases h : j = i
  · subst h
    rw [if_pos rfl, if_pos (Nat.lt_succ_self j)]
  · rw [if_neg h]
    by_cases h2 : j < i
    · rw [if_pos h2, if_pos (by omega)]
    · rw [if_neg h2, if_neg (by omega)]
theorem dgL_1 (LL : Nat → ltT) (i j : Nat) : (dgL LL i j).1 = (LL j).1 := by
  unfold dgL
  by_cases h : j < i
  · rw [if_pos h]; rfl
  · rw [if_neg h]
theorem dgL_n (LL : Nat → ltT) (i j : Nat) : (dgL LL i j).2.2 = (LL j).2.2 := by
  unfold dgL
  by_cases h : j < i
  · rw [if_pos h]; rfl
  · rw [if_neg h]
theorem weJ_dg (d : Int64) (LL : Nat → ltT) (EE : Nat → evT) (LN : Nat → Nat) (i q : Nat) : weJ d (dgL LL i) EE LN q = weJ d LL EE LN q := by
  unfold weJ toD chD ftD
  rw [dgL_1, dgL_n]
