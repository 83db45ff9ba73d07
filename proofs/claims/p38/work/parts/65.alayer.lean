/-! LAYER: the law's methods that call the class: what they are called with, what they may change; exceptions caught anywhere -/
def ZB (B0 : Nat) (U : State) (H : Heap) : Prop := vx_Zq Bundle.tN "UNASSIGNED_STACK" Bundle.steD (fun q => B0 ≤ q) U H ∧ vx_Zq Bundle.tN "SUPPRESSED_SENTINEL" Bundle.listD (fun q => B0 ≤ q) U H
theorem ZB.moved {B0 : Nat} {u U : State} {H : Heap} (hvm : u.vm.Alike U.vm) (h : ZB B0 u H) : ZB B0 U H := ⟨vx_Zq.moved hvm h.1, vx_Zq.moved hvm h.2⟩
theorem ZB.kept {B0 : Nat} {U : State} {A : Nat → Prop} {H H1 : Heap} (h : ZB B0 U H) (hC : CH A H H1) (hA : ∀ q, A q → B0 ≤ q) : ZB B0 U H1 := ⟨vx_Zq.kept h.1 fun a h1 h2 => hC.2 a h1 fun z => h2 (hA a z), vx_Zq.kept h.2 fun a h1 h2 => hC.2 a h1 fun z => h2 (hA a z)⟩
theorem ZB.zz {B0 : Nat} {U : State} {H : Heap} (h : ZB B0 U H) : ZZ U H := ⟨vx_Zq.narrow h.1 fun _ z => z.elim, vx_Zq.narrow h.2 fun _ z => z.elim⟩
def aPc (g : gT) (av : List Value) (sz B0 : Nat) (PH : Heap → Prop) : Array Value → State → Prop := va_Pc av (fun U => U.heap.size = sz ∧ KK g U ∧ ZB B0 U U.heap ∧ PH U.heap)
abbrev bA (B0 : Nat) : Nat → Prop := fun q => B0 ≤ q
abbrev aM (g : gT) (l : Launch) (y : MethodName) (ws : List Cond) (rm : Room) (av : List Value) (sz B0 : Nat) (PH : Heap → Prop) (POST : Option Value → Heap → Prop) (mc ms : Nat) : Prop := Met l y ws rm (aPc g av sz B0 PH) (nQ POST (fA (bA B0) sz)) mc ms (fA (bA B0) sz)
theorem aPc_blind {g : gT} {av : List Value} {sz B0 : Nat} {PH : Heap → Prop} : FrameBlind (aPc g av sz B0 PH) := fun a U f mk h => ⟨h.1, h.2.1, h.2.2.1.calling, ZB.moved (u := U) (U := U.calling f mk a) (Vm.Alike.refl U.vm) h.2.2.2.1, h.2.2.2.2⟩
section ALAY
variable {p : Program} {l : Launch} {e : Env} {R : Room} {s : State} {m : MethodId} {args : Array Value} {below : List Frame} {meth : Method} {c : Code} {H H0 : Heap} {locs : List Loc} {cells slots : Nat} {Q : State → Prop}
variable {pc : Nat} {ls : Array Slot} {rest st0 : List Value} {cc : ByteArray} {A0 A1 : Nat → Prop} {g : gT} {a : Array Value} {sz mc ms B0 : Nat}
variable {y : MethodName} {bytes : ByteArray} {maxL nL n index : Nat} {ret : Option FieldType} {ws ws' : List Cond} {rm : Room} {PH : Heap → Prop} {Ts : List Cond} {own C host : String} {b : Addr} {As av : List Value} {POST : Option Value → Heap → Prop} {hh : List (Nat × Nat × Nat × Nat)} {E : String}
theorem a_S (S : CallFix p m c cc nL s args Ts own) (hM : aM g l y ws rm As H.size B0 PH POST mc ms) (cw : CallB R s args own index y bytes maxL ret ws rm mc ms n ∧ (Cond.static y).before args s = true) (hK : KK g s) (hZ : ZB B0 s H) (hPH : PH H) (hS : va_S A0 H0 H locs) (hA : ∀ q, B0 ≤ q → A0 q) (hF : ∀ q, H0.size ≤ q → A0 q) (hn : As.length = n) (hsize : ls.size = nL) (hst : st0 = As.reverse ++ rest) (hW : (rest.map fun v => v.category).sum ≤ 8) (hdg : decode cc pc = .ok (.invokestatic index, 3)) (hf : cells + mc ≤ R.cells ∧ slots + ms ≤ R.slots)
    (kk : ∀ (v : Option Value) (H1 : Heap) (locs1 : List Loc), POST v H1 → CH (bA B0) H H1 → va_S A0 H0 H1 locs1 → W p l e R s m args below meth c H1 locs1 (cells + mc) (slots + ms) Q (F0 m (pc + 3) ls (v.toList ++ rest))) : W p l e R s m args below meth c H locs cells slots Q (F0 m pc ls st0) :=
  n_call (va_runS S hM cw ⟨aPc_blind, fun U hU hWm => ⟨rfl, by rw [hU], hK.warm hWm, by rw [hU]; exact hZ.moved hWm.alike, by rw [hU]; exact hPH⟩⟩ rfl hn hsize hst (lv_room hW) hdg hf) hS hA hF kk
theorem a_SW (S : CallFix p m c cc nL s args Ts own) (hM : aM g l y ws rm As H.size B0 PH POST mc ms) (cw : vx_CSW R s args own index y bytes maxL ret hh ws rm mc ms n) (hK : KK g s) (hZ : ZB B0 s H) (hPH : PH H) (hS : va_S A0 H0 H locs) (hA : ∀ q, B0 ≤ q → A0 q) (hF : ∀ q, H0.size ≤ q → A0 q) (hn : As.length = n) (hsize : ls.size = nL) (hst : st0 = As.reverse ++ rest) (hW : (rest.map fun v => v.category).sum ≤ 8) (hdg : decode cc pc = .ok (.invokestatic index, 3)) (hf : cells + mc ≤ R.cells ∧ slots + ms ≤ R.slots)
    (kk : ∀ (v : Option Value) (H1 : Heap) (locs1 : List Loc), POST v H1 → CH (bA B0) H H1 → va_S A0 H0 H1 locs1 → W p l e R s m args below meth c H1 locs1 (cells + mc) (slots + ms) Q (F0 m (pc + 3) ls (v.toList ++ rest))) : W p l e R s m args below meth c H locs cells slots Q (F0 m pc ls st0) :=
  n_call (vx_runSW S hM cw ⟨aPc_blind, fun U hU hWm => ⟨rfl, by rw [hU], hK.warm hWm, by rw [hU]; exact hZ.moved hWm.alike, by rw [hU]; exact hPH⟩⟩ rfl hn hsize hst (lv_room hW) hdg hf) hS hA hF kk
/-- a call that always throws, caught -/
theorem cx_V (S : CallFix p m c cc nL s args Ts own) (hM : xM g l y ws rm (.ref b :: As) PH E) (cw : CallW R s args own C index y bytes maxL ret ws rm 1 6 n) (hK : KK g s) (hZ : ZZ s H) (hrec : ∃ cellB : Cell, H[b]? = some cellB ∧ cellB.vm.isStatics = false ∧ s.vm.findClass C = some cellB.cls) (hPH : PH H) (hS : va_S A0 H0 H locs) (hn : As.length = n) (hsize : ls.size = nL) (hst : st0 = As.reverse ++ .ref b :: rest) (hW : (rest.map fun v => v.category).sum ≤ 8) (hdg : decode cc pc = .ok (.invokevirtual index, 3)) (hf : cells + 1 ≤ R.cells ∧ slots + 6 ≤ R.slots)
    (pre : List ExceptionTableEntry) (x : ExceptionTableEntry) (suf : List ExceptionTableEntry) (hsplit : c.exceptionTable.toList = pre ++ x :: suf)
    (hpass : ∀ z ∈ pre, covers z pc = false ∨ (z.catchType ≠ 0 ∧ ∃ nm : String, (Cond.classLink own z.catchType nm).before args s = true ∧ va_Nc E nm s)) (hx : covers x pc = true) (h0 : x.catchType ≠ 0)
    (hlink : (Cond.classLink own x.catchType E).before args s = true) (hcast : (E, E) ∈ castL)
    (kk : ∀ (H1 : Heap) (q : Nat), CH nil_ H H1 → va_S A0 H0 H1 locs → W p l e R s m args below meth c H1 locs (cells + 1) (slots + 6) Q (F0 m x.handlerPc ls [.ref q])) : W p l e R s m args below meth c H locs cells slots Q (F0 m pc ls st0) := by
  have hr := vx_runV (e := e) (below := below) (meth := meth) (g := F0 m pc ls st0) (rest := rest) (H := H) (locs := locs) (cells := cells) (slots := slots) S hM cw ⟨xPc_blind, hrec, fun U hU hWm => ⟨rfl, hK.warm hWm, by rw [hU]; exact hPH, by rw [hU]; exact hZ.moved hWm.alike⟩⟩ rfl hn hsize hst (lv_room hW) hdg hf
  intro T hT X
  rcases hr T hT X with ⟨v, st₀, t, T', L, h0, X', hL, e1, e2, hq, st⟩ | ⟨q, st₀, t, T', L, E', ce, h9, X', hL, e1, e2, ⟨hE, hz, hk⟩, hce, hcv, hcl, st⟩
  · exact hq.elim
  · subst hE
    rw [h9] at hz hk
    have hC : CH nil_ H T'.heap := ⟨by rw [e1]; exact hz, fun z hz9 _ => by rw [e1]; exact hk z hz9⟩
    obtain ⟨t2, a1, b1⟩ := vx_catch (p := p) (l := l) (e := e) (R := R) (s := s) (m := m) (args := args) (below := below) (meth := meth) (c := c) (H := T'.heap) (locs := locs) (cells := cells + 1) (slots := slots + 6) (Q := Q) (pc := pc) (ls := ls) (rest := rest) S.2.2.2.1 pre x suf hsplit hpass hx h0 hlink (va_Nw.use rfl (hK.2.2.2.2.2.1 (_, _) hcast)) (by rw [e1]; exact hce) hcv hcl (kk T'.heap q hC (hC.S hS fun _ _ z => z.elim)) T' rfl (Stand.forget X' (fun q h => (hL q h).elim))
    exact ⟨t2, st.trans a1, b1⟩
/-- the body of the law's act -/
theorem ar_ofT (hy : plainName y.cls = true) (hw : ws = Cond.codeWith y cc maxL (some .boolean) hh :: ws') (hlen : (lg_sl av).length ≤ maxL)
    (body : ∀ (p : Program) (e : Env) (s : State) (m : MethodId) (args : Array Value) (below : List Frame) (meth : Method) (c : Code) (ls : Array Slot) (Q : State → Prop), p.tables.exec = Jvm.exec → c.code = cc → c.maxLocals = maxL → (∀ w ∈ ws, w.before args s = true) → s.vm.findClass y.cls = some m.cls → KK g s → s.heap.size = sz → ZB B0 s s.heap → PH s.heap → c.exceptionTable.toList = tableOf hh → lv_has ls maxL (lv_args 0 av) →
      (∀ (pc : Nat) (ls : Array Slot) (H : Heap) (locs : List Loc), POST (some (.int 1)) H → va_S (fA (bA B0) sz) s.heap H locs → decode cc pc = .ok (.ireturn, 1) → W p l e rm s m args below meth c H locs mc ms Q (F0 m pc ls [.int 1])) →
      W p l e rm s m args below meth c s.heap [] 0 0 Q (F0 m 0 ls [])) : aM g l y ws rm av sz B0 PH POST mc ms := by
  refine va_MetW (cc := cc) (maxL := maxL) (ret := some .boolean) (hh := hh) hy hw ?_
  intro p e s m args below meth c s₁ B hml hv
  obtain ⟨rfl, hsz, hK, hZ, hP⟩ := hv
  have hl := lv_entry av (n := maxL) hlen
  rw [lg_entry_eq]
  have hts := atoms_spec B.pre
  exact body p e s m _ below meth c _ _ B.exec B.bytes hml hts (findClass_of_methodNamed B.named) hK hsz hZ hP (vx_table (x := y) B (hts _ (by show _ ∈ ws; rw [hw]; exact List.mem_cons_self))) hl (fun pc ls H locs hp hS hd => W.zret B.exec B.bytes B.returns rfl (fun t ht _ => ⟨_, rfl, by rw [ht]; exact hp, hS.F ht⟩) hS.2.2 hd B.notSynchronized)
theorem ar_ofA {rt : FieldType} (hrt : (∃ n, rt = .object n) ∨ ∃ t, rt = .array t) (hy : plainName y.cls = true) (hw : ws = Cond.code y cc maxL (some rt) :: ws') (hlen : (lg_sl av).length ≤ maxL)
    (body : ∀ (p : Program) (e : Env) (s : State) (m : MethodId) (args : Array Value) (below : List Frame) (meth : Method) (c : Code) (ls : Array Slot) (Q : State → Prop), p.tables.exec = Jvm.exec → c.code = cc → c.maxLocals = maxL → (∀ w ∈ ws, w.before args s = true) → s.vm.findClass y.cls = some m.cls → KK g s → s.heap.size = sz → ZB B0 s s.heap → PH s.heap → lv_has ls maxL (lv_args 0 av) →
      (∀ (pc : Nat) (ls : Array Slot) (H : Heap) (locs : List Loc) (x : Nat), POST (some (.ref x)) H → va_S (fA (bA B0) sz) s.heap H locs → decode cc pc = .ok (.areturn, 1) → W p l e rm s m args below meth c H locs mc ms Q (F0 m pc ls [.ref x])) →
      W p l e rm s m args below meth c s.heap [] 0 0 Q (F0 m 0 ls [])) : aM g l y ws rm av sz B0 PH POST mc ms := by
  refine Met.ofW (cc := cc) (maxL := maxL) (ret := some rt) hy hw ?_
  intro p e s m args below meth c s₁ B hml hv
  obtain ⟨rfl, hsz, hK, hZ, hP⟩ := hv
  have hl := lv_entry av (n := maxL) hlen
  rw [lg_entry_eq]
  exact body p e s m _ below meth c _ _ B.exec B.bytes hml (atoms_spec B.pre) (findClass_of_methodNamed B.named) hK hsz hZ hP hl (fun pc ls H locs x hp hS hd => W.aret B.exec B.bytes B.returns hrt (Or.inr ⟨_, rfl⟩) (fun t ht _ => ⟨_, rfl, by rw [ht]; exact hp, hS.F ht⟩) hS.2.2 hd B.notSynchronized)
end ALAY
