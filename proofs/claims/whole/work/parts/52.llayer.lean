/-! LAYER, fifth: the law's own static methods: they call the class, keep its answer in a row of one long, or tell which exception it threw -/
def outW (g : gT) (o : Nat) (v : Int64) : va_W := [(o, .inl (gJ g, 1, .inr (.inl (fun _ => v))))]
def lPc (g : gT) (av : List Value) (cs : va_W) (o : Nat) (v : Int64) : Array Value → State → Prop := va_Pc av (fun U => KK g U ∧ ZZ U U.heap ∧ va_P (gD g) vwCl cs U.heap ∧ va_P (gD g) vwCl (outW g o v) U.heap ∧ va_D (fun _ => True) cs ∧ ¬ wA cs o)
def lA (cs : va_W) (o : Nat) : Nat → Prop := fun q => wA cs q ∨ q = o
def lQ (g : gT) (code : Int32) (cs' : va_W) (o : Nat) (v' : Int64) (A : Nat → Prop) : Array Value → State → Outcome → State → Prop := fun _ st oc t => oc = .returned (some (.int code)) ∧ va_P (gD g) vwCl cs' t.heap ∧ va_P (gD g) vwCl (outW g o v') t.heap ∧ va_F A st t
abbrev lM (g : gT) (l : Launch) (y : MethodName) (ws : List Cond) (rm : Room) (av : List Value) (cs : va_W) (o : Nat) (v : Int64) (code : Int32) (cs' : va_W) (v' : Int64) : Prop := Met l y ws rm (lPc g av cs o v) (lQ g code cs' o v' (lA cs o)) 1 6 (lA cs o)
theorem lPc_blind {g : gT} {av : List Value} {cs : va_W} {o : Nat} {v : Int64} : FrameBlind (lPc g av cs o v) := fun a U f mk h => ⟨h.1, h.2.1.calling, ZZ.moved (u := U) (U := U.calling f mk a) (Vm.Alike.refl U.vm) h.2.2.1, h.2.2.2⟩
section LLAY
variable {p : Program} {l : Launch} {e : Env} {R : Room} {s : State} {m : MethodId} {args : Array Value} {below : List Frame} {meth : Method} {c : Code} {H H0 : Heap} {locs : List Loc} {cells slots : Nat} {Q : State → Prop}
variable {pc : Nat} {ls : Array Slot} {rest st0 : List Value} {E : String} {cc : ByteArray}
theorem st_J {D : va_G} {cl : List vw_C} {tys : List (ClassId × FieldType)} {o : Nat} {cA : ClassId} {A : Nat → Prop} {v x : Int64} (hexec : p.tables.exec = Jvm.exec) (hb : c.code = cc) (hK : va_K D cl tys s) (hP : va_P D cl [(o, .inl (cA, 1, .inr (.inl (fun _ => v))))] H) (hA : A o) (hS : va_S A H0 H locs) (t0 : Nat) (ht : tys[t0]? = some (cA, .long)) (hdg : decode cc pc = .ok (.lastore, 1))
    (kk : ∀ (H1 : Heap) (locs1 : List Loc), va_P D cl [(o, .inl (cA, 1, .inr (.inl (fun _ => x))))] H1 → (∀ q : Nat, q < H.size → ¬ q = o → H1[q]? = H[q]?) → va_S A H0 H1 locs1 → W p l e R s m args below meth c H1 locs1 cells slots Q (F0 m (pc + 1) ls rest)) : W p l e R s m args below meth c H locs cells slots Q (F0 m pc ls (.long x :: .int 0 :: .ref o :: rest)) := by
  have hc := hP 0 _ rfl
  refine W.last hexec hb hc ((hK.2 t0 _ ht).1 1 (fun _ => .long v)) (fun q => by cases q) (by show ¬ ((0 : Int32) < 0 ∨ (arrV _ _ _).slots.size ≤ _); rw [arrV_size]; show ¬ ((0 : Int32) < 0 ∨ 1 ≤ (0 : Int32).toNatClampNeg); decide +kernel) rfl rfl hdg fun H1 e1 z oq => ?_
  refine kk H1 _ (fun k x hx => ?_) (fun q _ hq => oq q hq) (hS.put z oq hA)
  match k, hx with
  | 0, hx =>
    cases hx
    show H1[o]? = some (vp_cell _ _)
    rw [e1, vp_cell_l]
    show some ((arrV cA 1 (fun _ => .long v)).setSlot 0 (.long _)) = _
    rw [arrV_store]
    congr 2
  | k + 1, hx => simp at hx
theorem l_catch {own : String} {q9 : Array Value} (hr : vx_Run p l e R s m args below meth c s.heap [] 0 0 1 6 (F0 m pc ls st0) rest (xN q9) (xX E) (fun _ => False)) (hown : s.vm.findClass own = some m.cls) (pre : List ExceptionTableEntry) (x : ExceptionTableEntry) (suf : List ExceptionTableEntry) (hsplit : c.exceptionTable.toList = pre ++ x :: suf)
    (hpass : ∀ z ∈ pre, covers z pc = false ∨ (z.catchType ≠ 0 ∧ ∃ nm : String, (Cond.classLink own z.catchType nm).before args s = true ∧ va_Nc E nm s)) (hx : covers x pc = true) (h0 : x.catchType ≠ 0)
    (hlink : (Cond.classLink own x.catchType E).before args s = true) (hcast : (Cond.castable E E).before args s = true)
    (kk : ∀ (H1 : Heap) (q : Nat), s.heap.size ≤ H1.size → (∀ z : Nat, z < s.heap.size → H1[z]? = s.heap[z]?) → W p l e R s m args below meth c H1 [] 1 6 Q (F0 m x.handlerPc ls [.ref q])) : W p l e R s m args below meth c s.heap [] 0 0 Q (F0 m pc ls st0) := by
  intro T hT X
  rcases hr T hT X with ⟨v, st₀, t, T', L, h0, X', hL, e1, e2, hq, st⟩ | ⟨q, st₀, t, T', L, E', ce, h9, X', hL, e1, e2, ⟨hE, hz, hk⟩, hce, hcv, hcl, st⟩
  · exact hq.elim
  · subst hE
    rw [h9] at hz hk
    obtain ⟨t2, a1, b1⟩ := vx_catch (p := p) (l := l) (e := e) (R := R) (s := s) (m := m) (args := args) (below := below) (meth := meth) (c := c) (H := T'.heap) (locs := []) (cells := 1) (slots := 6) (Q := Q) (pc := pc) (ls := ls) (rest := rest) hown pre x suf hsplit hpass hx h0 hlink hcast (by rw [e1]; exact hce) hcv hcl (kk T'.heap q (by rw [e1]; exact hz) (fun z hz9 => by rw [e1]; exact hk z hz9)) T' rfl (Stand.forget (locs := []) X' (fun q h => (hL q h).elim))
    exact ⟨t2, st.trans a1, b1⟩
variable {g : gT} {y : MethodName} {bytes : ByteArray} {maxL nL n index : Nat} {ret : Option FieldType} {ws ws' : List Cond} {rm : Room} {PH : Heap → Prop} {Ts : List Cond} {own C : String} {b : Addr} {As av : List Value} {cs cs' : va_W} {o : Nat} {v v' : Int64} {code : Int32} {hh : List (Nat × Nat × Nat × Nat)}
/-- a call that always throws, caught -/
theorem lx_V (S : CallFix p m c cc nL s args Ts own) (hM : xM g l y ws rm (.ref b :: As) PH E) (cw : CallW R s args own C index y bytes maxL ret ws rm 1 6 n) (hK : KK g s) (hZ : ZZ s s.heap) (hrec : ∃ cellB : Cell, s.heap[b]? = some cellB ∧ cellB.vm.isStatics = false ∧ s.vm.findClass C = some cellB.cls) (hPH : PH s.heap) (hn : As.length = n) (hsize : ls.size = nL) (hst : st0 = As.reverse ++ .ref b :: rest) (hW : (rest.map fun v => v.category).sum ≤ 8) (hdg : decode cc pc = .ok (.invokevirtual index, 3)) (hf : 0 + 1 ≤ R.cells ∧ 0 + 6 ≤ R.slots)
    (pre : List ExceptionTableEntry) (x : ExceptionTableEntry) (suf : List ExceptionTableEntry) (hsplit : c.exceptionTable.toList = pre ++ x :: suf)
    (hpass : ∀ z ∈ pre, covers z pc = false ∨ (z.catchType ≠ 0 ∧ ∃ nm : String, (Cond.classLink own z.catchType nm).before args s = true ∧ va_Nc E nm s)) (hx : covers x pc = true) (h0 : x.catchType ≠ 0)
    (hlink : (Cond.classLink own x.catchType E).before args s = true) (hcast : (E, E) ∈ castL)
    (kk : ∀ (H1 : Heap) (q : Nat), s.heap.size ≤ H1.size → (∀ z : Nat, z < s.heap.size → H1[z]? = s.heap[z]?) → W p l e R s m args below meth c H1 [] 1 6 Q (F0 m x.handlerPc ls [.ref q])) : W p l e R s m args below meth c s.heap [] 0 0 Q (F0 m pc ls st0) :=
  l_catch (vx_runV S hM cw ⟨xPc_blind, hrec, fun U hU hWm => ⟨rfl, hK.warm hWm, by rw [hU]; exact hPH, by rw [hU]; exact hZ.moved hWm.alike⟩⟩ rfl hn hsize hst (lv_room hW) hdg hf) S.2.2.2.1 pre x suf hsplit hpass hx h0 hlink (va_Nw.use rfl (hK.2.2.2.2.2.1 (E, E) hcast)) kk
theorem lA_of {A : Nat → Prop} {q : Nat} (h : lA cs o q) (h1 : ∀ q, wA cs q → A q) (h2 : A o) : A q := h.elim (h1 q) (fun z => z ▸ h2)
/-- the body of one of the law's own methods -/
theorem lr_of (hy : plainName y.cls = true) (hw : ws = Cond.codeWith y cc maxL (some .int) hh :: ws') (hlen : (lg_sl av).length ≤ maxL)
    (body : ∀ (p : Program) (e : Env) (s : State) (m : MethodId) (args : Array Value) (below : List Frame) (meth : Method) (c : Code) (ls : Array Slot) (Q : State → Prop), p.tables.exec = Jvm.exec → c.code = cc → c.maxLocals = maxL → (∀ w ∈ ws, w.before args s = true) → s.vm.findClass y.cls = some m.cls → KK g s → ZZ s s.heap → va_P (gD g) vwCl cs s.heap → va_P (gD g) vwCl (outW g o v) s.heap → va_D (fun _ => True) cs → ¬ wA cs o → c.exceptionTable.toList = tableOf hh → lv_has ls maxL (lv_args 0 av) →
      (∀ (pc : Nat) (ls : Array Slot) (H : Heap) (locs : List Loc), va_P (gD g) vwCl cs' H → va_P (gD g) vwCl (outW g o v') H → va_S (lA cs o) s.heap H locs → decode cc pc = .ok (.ireturn, 1) → W p l e rm s m args below meth c H locs 1 6 Q (F0 m pc ls [.int code])) →
      W p l e rm s m args below meth c s.heap [] 0 0 Q (F0 m 0 ls [])) : lM g l y ws rm av cs o v code cs' v' := by
  refine va_MetW (cc := cc) (maxL := maxL) (ret := some .int) (hh := hh) hy hw ?_
  intro p e s m args below meth c s₁ B hml hv
  obtain ⟨rfl, hK, hZ, hP, hO, hD, hNo⟩ := hv
  have hl := lv_entry av (n := maxL) hlen
  rw [lg_entry_eq]
  have hts := atoms_spec B.pre
  exact body p e s m _ below meth c _ _ B.exec B.bytes hml hts (findClass_of_methodNamed B.named) hK hZ hP hO hD hNo (vx_table (x := y) B (hts _ (by show _ ∈ ws; rw [hw]; exact List.mem_cons_self))) hl (fun pc ls H locs hP hO hS hd => W.iret B.exec B.bytes B.returns (fun t ht _ => ⟨rfl, by rw [ht]; exact hP, by rw [ht]; exact hO, hS.F ht⟩) hS.2.2 hd B.notSynchronized)
end LLAY
theorem dk_old {g : gT} {AD : Nat → Nat} {LL : Nat → ltT} {EE : Nat → evT} {lc ec : Nat} {H H1 : Heap} (hP : va_P (gD g) vwCl (wsD g AD LL EE lc ec) H) (hk : ∀ z : Nat, z < H.size → H1[z]? = H[z]?) : va_P (gD g) vwCl (wsD g AD LL EE lc ec) H1 := hP.kept fun k x hx => hk x.1 (hP k x hx).lt
theorem out_old {g : gT} {o : Nat} {v : Int64} {H H1 : Heap} (hP : va_P (gD g) vwCl (outW g o v) H) (hk : ∀ z : Nat, z < H.size → H1[z]? = H[z]?) : va_P (gD g) vwCl (outW g o v) H1 := hP.kept fun k x hx => hk x.1 (hP k x hx).lt
theorem out_kept {g : gT} {o : Nat} {v : Int64} {H H1 : Heap} {cs : va_W} (hP : va_P (gD g) vwCl (outW g o v) H) (hk : ∀ z : Nat, z < H.size → ¬ wA cs z → H1[z]? = H[z]?) (hN : ¬ wA cs o) : va_P (gD g) vwCl (outW g o v) H1 := hP.kept fun k x hx => by
  refine hk x.1 (hP k x hx).lt ?_
  match k, hx with
  | 0, hx => cases hx; exact hN
  | k + 1, hx => simp [outW] at hx
theorem dk_keep {g : gT} {AD : Nat → Nat} {LL : Nat → ltT} {EE : Nat → evT} {lc ec : Nat} {H H1 : Heap} {o : Nat} (hP : va_P (gD g) vwCl (wsD g AD LL EE lc ec) H) (hk : ∀ z : Nat, z < H.size → ¬ z = o → H1[z]? = H[z]?) (hA : ∀ k, k < 87 → ¬ AD k = o) : va_P (gD g) vwCl (wsD g AD LL EE lc ec) H1 := hP.kept fun k x hx => by
  refine hk x.1 (hP k x hx).lt ?_
  obtain ⟨h1, rfl⟩ := wsD_inv hx
  exact hA k h1
theorem dk_no {g : gT} {AD : Nat → Nat} {LL : Nat → ltT} {EE : Nat → evT} {lc ec o : Nat} (hN : ¬ wA (wsD g AD LL EE lc ec) o) : ∀ k, k < 87 → ¬ AD k = o := fun k hk e => hN ⟨k, dkE g AD LL EE lc ec k, by rw [← e]; exact wsD_at hk⟩
