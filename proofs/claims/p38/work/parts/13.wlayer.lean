/-! LAYER, second: methods that write cells of a known world, and make none; methods that always throw -/
/-- the addresses of a world -/
def wA (cs : va_W) : Nat → Prop := fun q => ∃ (k : Nat) (e : va_E), cs[k]? = some (q, e)
def wPc (g : gT) (av : List Value) (cs : va_W) : Array Value → State → Prop := va_Pc av (fun U => KK g U ∧ va_P (gD g) vwCl cs U.heap ∧ va_D (fun _ => True) cs)
def wQ (g : gT) (v : Option Value) (cs' : va_W) (A : Nat → Prop) : Array Value → State → Outcome → State → Prop := fun _ st oc t => oc = .returned v ∧ va_P (gD g) vwCl cs' t.heap ∧ va_F A st t
abbrev wM (g : gT) (l : Launch) (y : MethodName) (ws : List Cond) (rm : Room) (av : List Value) (cs : va_W) (v : Option Value) (cs' : va_W) : Prop := Met l y ws rm (wPc g av cs) (wQ g v cs' (wA cs)) 0 0 (wA cs)
theorem wPc_blind {g : gT} {av : List Value} {cs : va_W} : FrameBlind (wPc g av cs) := fun a U f mk h => ⟨h.1, h.2.1.calling, h.2.2⟩
section WLAY
variable {p : Program} {l : Launch} {e : Env} {R : Room} {s : State} {m : MethodId} {args : Array Value} {below : List Frame} {meth : Method} {c : Code} {H : Heap} {locs : List Loc} {cells slots : Nat} {Q : State → Prop}
variable {pc : Nat} {ls : Array Slot} {rest st0 : List Value} {a : Array Value} {A0 : Nat → Prop} {H0 : Heap}
theorem w_call {g : gT} {v : Option Value} {cs cs' : va_W} (hr : va_Run p l e R s m args below meth c H locs cells slots 0 0 (F0 m pc ls st0) rest (wQ g v cs' (wA cs) a) (wA cs)) (hS : va_S A0 H0 H locs) (hA : ∀ q, wA cs q → A0 q)
    (kk : ∀ (H1 : Heap) (locs1 : List Loc), va_P (gD g) vwCl cs' H1 → H.size ≤ H1.size → (∀ q : Nat, q < H.size → ¬ wA cs q → H1[q]? = H[q]?) → va_S A0 H0 H1 locs1 → W p l e R s m args below meth c H1 locs1 cells slots Q (F0 m (pc + 3) ls (v.toList ++ rest))) : W p l e R s m args below meth c H locs cells slots Q (F0 m pc ls st0) := by
  intro T hT X
  obtain ⟨v9, st₀, t, T', L, h0, X', hL, e1, e2, ⟨hv, hp, hz, hk⟩, st⟩ := hr T hT X
  cases hv
  rw [h0] at hz hk
  obtain ⟨t2, a1, b1⟩ := kk T'.heap (locs ++ L) (by rw [e1]; exact hp) (by rw [e1]; exact hz) (fun q h1 h2 => by rw [e1]; exact hk q h1 h2)
    ⟨Nat.le_trans hS.1 (by rw [e1]; exact hz), fun q h1 h2 => by rw [e1, hk q (Nat.lt_of_lt_of_le h1 hS.1) (fun z => h2 (hA q z))]; exact hS.2.1 q h1 h2, fun q hq => by
      rcases List.mem_append.mp hq with h | h
      · exact hS.2.2 q h
      · exact hA _ (hL q h)⟩ T' rfl X'
  exact ⟨t2, st t2 a1, b1⟩
variable {g : gT} {y : MethodName} {bytes cc : ByteArray} {maxL nL n index : Nat} {ret : Option FieldType} {ws ws' : List Cond} {rm : Room} {cs cs' : va_W} {v : Option Value} {Ts : List Cond} {own C : String} {b : Addr} {As : List Value}
theorem w_V (S : CallFix p m c cc nL s args Ts own) (hM : wM g l y ws rm (.ref b :: As) cs v cs') (cw : CallW R s args own C index y bytes maxL ret ws rm 0 0 n) (hK : KK g s) (hrec : ∃ cellB : Cell, H[b]? = some cellB ∧ cellB.vm.isStatics = false ∧ s.vm.findClass C = some cellB.cls) (hP : va_P (gD g) vwCl cs H) (hD : va_D (fun _ => True) cs) (hS : va_S A0 H0 H locs) (hA : ∀ q, wA cs q → A0 q) (hn : As.length = n) (hsize : ls.size = nL) (hst : st0 = As.reverse ++ .ref b :: rest) (hW : (rest.map fun v => v.category).sum ≤ 8) (hdg : decode cc pc = .ok (.invokevirtual index, 3)) (hf : cells + 0 ≤ R.cells ∧ slots + 0 ≤ R.slots)
    (kk : ∀ (H1 : Heap) (locs1 : List Loc), va_P (gD g) vwCl cs' H1 → H.size ≤ H1.size → (∀ q : Nat, q < H.size → ¬ wA cs q → H1[q]? = H[q]?) → va_S A0 H0 H1 locs1 → W p l e R s m args below meth c H1 locs1 cells slots Q (F0 m (pc + 3) ls (v.toList ++ rest))) : W p l e R s m args below meth c H locs cells slots Q (F0 m pc ls st0) :=
  w_call (va_runV S hM cw ⟨wPc_blind, hrec, fun U hU hWm => ⟨rfl, hK.warm hWm, by rw [hU]; exact hP, hD⟩⟩ rfl hn hsize hst (lv_room hW) hdg hf) hS hA kk
/-- the same over a longer world: cs is of it, at the places isC; the others, at isR, stay -/
theorem wA_D {A : Nat → Prop} {W cs : va_W} (hD : va_D A W) (isC : List Nat) (hC : isC.map (fun i => W[i]?) = cs.map some) : ∀ q, wA cs q → A q := by
  rintro q ⟨k, e, h⟩
  have h1 : (isC.map (fun i => W[i]?))[k]? = some (some (q, e)) := by rw [hC, List.getElem?_map, h]; rfl
  rw [List.getElem?_map] at h1
  cases hi : isC[k]? with
  | none => rw [hi] at h1; cases h1
  | some i => rw [hi] at h1; exact hD.2 i (q, e) (Option.some.inj h1)
theorem st_I {D : va_G} {cl : List vw_C} {ws : va_W} {a : Nat} {cA : ClassId} {t1 : List (ClassId × FieldType)} {A : Nat → Prop} {k n : Nat} {f : Nat → Int32} {x : Int32} (hexec : p.tables.exec = Jvm.exec) (hb : c.code = cc) (hK : va_K D cl ((cA, .int) :: t1) s) (hP : va_P D cl ws H) (hD : va_D A ws) (hS : va_S A H0 H locs) (q0 : Nat) (ha : ws[q0]? = some (a, .inl (cA, n, .inl f))) (hk : k < n) (hn : n < 2 ^ 31) (hdg : decode cc pc = .ok (.iastore, 1))
    (kk : ∀ (H1 : Heap) (locs1 : List Loc), va_P D cl (ws.set q0 (a, .inl (cA, n, .inl (upd f k x)))) H1 → va_D A (ws.set q0 (a, .inl (cA, n, .inl (upd f k x)))) → va_S A H0 H1 locs1 → W p l e R s m args below meth c H1 locs1 cells slots Q (F0 m (pc + 1) ls rest)) : W p l e R s m args below meth c H locs cells slots Q (F0 m pc ls (.int x :: .int (nI k) :: .ref a :: rest)) := by
  refine va_iast hexec hb hK hP hD hS q0 0 ha rfl (vp_in_nI hk hn) hdg ?_
  rw [nI_clamp (Nat.lt_trans hk hn)]
  exact kk
end WLAY
/-- the body of a writing method -/
def wBody (g : gT) (l : Launch) (y : MethodName) (ws : List Cond) (rm : Room) (av : List Value) (cs cs' : va_W) (cc : ByteArray) (maxL : Nat) (op : Instr) (v : Option Value) : Prop :=
  ∀ (p : Program) (e : Env) (s : State) (m : MethodId) (args : Array Value) (below : List Frame) (meth : Method) (c : Code) (H0 : Heap) (ls : Array Slot) (A : Nat → Prop) (Q : State → Prop),
    p.tables.exec = Jvm.exec → c.code = cc → c.maxLocals = maxL → (∀ w ∈ ws, w.before args s = true) → s.vm.findClass y.cls = some m.cls → KK g s → va_P (gD g) vwCl cs H0 → va_D A cs → va_S A H0 H0 [] → lv_has ls maxL (lv_args 0 av) →
    (∀ (pc : Nat) (ls : Array Slot) (H : Heap) (locs : List Loc), va_P (gD g) vwCl cs' H → va_S A H0 H locs → decode cc pc = .ok (op, 1) → W p l e rm s m args below meth c H locs 0 0 Q (F0 m pc ls v.toList)) →
    W p l e rm s m args below meth c H0 [] 0 0 Q (F0 m 0 ls [])
section WLAY2
variable {g : gT} {l : Launch} {y : MethodName} {ws ws' : List Cond} {rm : Room} {av : List Value} {cs cs' : va_W} {cc : ByteArray} {maxL : Nat}
theorem wA_self {cs : va_W} (h : va_D (fun _ => True) cs) : va_D (wA cs) cs := ⟨h.1, fun k q hk => ⟨k, q.2, hk⟩⟩
theorem wr_ofI {x : Int32} (hy : plainName y.cls = true) (hw : ws = Cond.code y cc maxL (some .int) :: ws') (hlen : (lg_sl av).length ≤ maxL) (body : wBody g l y ws rm av cs cs' cc maxL .ireturn (some (.int x))) : wM g l y ws rm av cs (some (.int x)) cs' := by
  refine Met.ofW (cc := cc) (maxL := maxL) (ret := some .int) hy hw ?_
  intro p e s m args below meth c s₁ B hml hv
  obtain ⟨rfl, hK, hP, hD⟩ := hv
  have hl := lv_entry av (n := maxL) hlen
  rw [lg_entry_eq]
  exact body p e s m _ below meth c s.heap _ (wA cs) _ B.exec B.bytes hml (atoms_spec B.pre) (findClass_of_methodNamed B.named) hK hP (wA_self hD) va_S.rf hl (fun pc ls H locs hP hS hd => W.iret B.exec B.bytes B.returns (fun t ht _ => ⟨rfl, by rw [ht]; exact hP, hS.F ht⟩) hS.2.2 hd B.notSynchronized)
theorem wr_ofZ {x : Int32} (hn : narrow .boolean (.int x) = .int x) (hy : plainName y.cls = true) (hw : ws = Cond.code y cc maxL (some .boolean) :: ws') (hlen : (lg_sl av).length ≤ maxL) (body : wBody g l y ws rm av cs cs' cc maxL .ireturn (some (.int x))) : wM g l y ws rm av cs (some (.int x)) cs' := by
  refine Met.ofW (cc := cc) (maxL := maxL) (ret := some .boolean) hy hw ?_
  intro p e s m args below meth c s₁ B hml hv
  obtain ⟨rfl, hK, hP, hD⟩ := hv
  have hl := lv_entry av (n := maxL) hlen
  rw [lg_entry_eq]
  exact body p e s m _ below meth c s.heap _ (wA cs) _ B.exec B.bytes hml (atoms_spec B.pre) (findClass_of_methodNamed B.named) hK hP (wA_self hD) va_S.rf hl (fun pc ls H locs hP hS hd => W.zret B.exec B.bytes B.returns hn (fun t ht _ => ⟨rfl, by rw [ht]; exact hP, hS.F ht⟩) hS.2.2 hd B.notSynchronized)
theorem wr_ofV (hy : plainName y.cls = true) (hw : ws = Cond.code y cc maxL none :: ws') (hlen : (lg_sl av).length ≤ maxL) (body : wBody g l y ws rm av cs cs' cc maxL .return_ none) : wM g l y ws rm av cs none cs' := by
  refine Met.ofW (cc := cc) (maxL := maxL) (ret := none) hy hw ?_
  intro p e s m args below meth c s₁ B hml hv
  obtain ⟨rfl, hK, hP, hD⟩ := hv
  have hl := lv_entry av (n := maxL) hlen
  rw [lg_entry_eq]
  exact body p e s m _ below meth c s.heap _ (wA cs) _ B.exec B.bytes hml (atoms_spec B.pre) (findClass_of_methodNamed B.named) hK hP (wA_self hD) va_S.rf hl (fun pc ls H locs hP hS hd => W.vret B.exec B.bytes B.returns (fun t ht _ => ⟨rfl, by rw [ht]; exact hP, hS.F ht⟩) hS.2.2 hd B.notSynchronized)
theorem wr_ofJ {x : Int64} (hy : plainName y.cls = true) (hw : ws = Cond.code y cc maxL (some .long) :: ws') (hlen : (lg_sl av).length ≤ maxL) (body : wBody g l y ws rm av cs cs' cc maxL .lreturn (some (.long x))) : wM g l y ws rm av cs (some (.long x)) cs' := by
  refine Met.ofW (cc := cc) (maxL := maxL) (ret := some .long) hy hw ?_
  intro p e s m args below meth c s₁ B hml hv
  obtain ⟨rfl, hK, hP, hD⟩ := hv
  have hl := lv_entry av (n := maxL) hlen
  rw [lg_entry_eq]
  exact body p e s m _ below meth c s.heap _ (wA cs) _ B.exec B.bytes hml (atoms_spec B.pre) (findClass_of_methodNamed B.named) hK hP (wA_self hD) va_S.rf hl (fun pc ls H locs hP hS hd => W.lret B.exec B.bytes B.returns (fun t ht _ => ⟨rfl, by rw [ht]; exact hP, hS.F ht⟩) hS.2.2 hd B.notSynchronized)
end WLAY2
