/-! THE LAW'S DESK BY HAND: its world; contracts of methods that make cells -/
section PTO
variable {p : Program} {l : Launch} {e : Env} {R : Room} {s : State} {m : MethodId} {args : Array Value} {below : List Frame} {meth : Method} {c : Code} {H H0 : Heap} {locs : List Loc} {cells slots : Nat} {Q : State → Prop}
variable {pc : Nat} {ls : Array Slot} {rest st0 : List Value} {cc : ByteArray} {A A0 A1 : Nat → Prop} {g : gT} {a : Nat}
theorem pt_O (hexec : p.tables.exec = Jvm.exec) (hb : c.code = cc) {own ref C : String} {T : u_T} {N ci index : Nat} {Ts : List Cond} (hts : ∀ w ∈ Ts, w.before args s = true) (hin : ∀ w ∈ u_ws C T N, w ∈ Ts) (ty0 : Nat → FieldType) (hty : ∀ k, k < N → parseFieldDescriptor (T k).2.2.1 = some (ty0 k)) (hnm : ∀ a, a < N → ∀ b, b < N → a ≠ b → (T a).2.1 ≠ (T b).2.1) (hown : s.vm.findClass own = some m.cls) (hK : KK g s) {fs : List Value} (hP : va_P (gD g) vwCl [(a, .inr (ci, fs))] H) (hS0 : va_S A H0 H locs) (hA : A a) (hc : vwCl[ci]? = some (C, T, N)) (k : Nat) (hk : k < N) (hlink : (Cond.fieldLink own index ref (T k).2.1 (T k).2.2.1).before args s = true) (hsame : ∀ x, s.fieldFound? (T k).1 (T k).2.1 (T k).2.2.1 = some x → s.fieldFound? ref (T k).2.1 (T k).2.2.1 = some x) (hfin : (T k).2.2.2 = false) {ty : FieldType} {v : Value} (hd : parseFieldDescriptor (T k).2.2.1 = some ty) (hn : narrow ty v = v) (hfit : fits ty v = true) (hl : k < fs.length)
    (hdg : decode cc pc = .ok (.putfield index, 3)) (kk : ∀ (H1 : Heap) (locs1 : List Loc), va_P (gD g) vwCl [(a, .inr (ci, fs.set k v))] H1 → CH (fun q => q = a) H H1 → va_S A H0 H1 locs1 → W p l e R s m args below meth c H1 locs1 cells slots Q (F0 m (pc + 3) ls rest)) : W p l e R s m args below meth c H locs cells slots Q (F0 m pc ls (v :: .ref a :: rest)) := by
  have hap := va_apart (own := own) hts hin ty0 hty hnm hK.1 hc
  obtain ⟨r, h1, cell, q1, q2, q3, q4⟩ := hP 0 _ rfl
  have hr : r = (C, T, N) := Option.some.inj (h1.symm.trans hc)
  subst hr
  obtain ⟨hS, hfc, kC, hkC, hkind⟩ := hK.1.1 ci _ hc
  obtain ⟨cf, kf, fi, f, hi, hsl⟩ := hS k hk
  have hlay := hts _ (hin _ (u_in_lay hk))
  unfold u_lay at hlay
  rw [if_neg (by rw [hfin]; decide)] at hlay
  have hst := (u_facts hfc hkC (u_lays hts hin hk) hi).1
  have h6 := u_store hfc hkC hkind hlay hi hd hn hfit
  refine W.putK hexec hb (f := f) ⟨hown, hlink, ⟨_, _, _, hsame _ hi⟩, hst⟩ (by rw [q2]; exact h6) q1 q3 (by rw [hsl]; exact k2_hasslot (q4 k hk)) rfl rfl hdg fun H' e1 e2 e3 => ?_
  rw [hsl] at e1 ⊢
  refine kk H' _ (fun j x hx => ?_) (CH.oq e2 e3) (hS0.put e2 e3 hA)
  have hz : j < 1 := (List.getElem?_eq_some_iff.mp hx).1
  rw [show j = 0 by omega] at hx
  cases hx
  exact ⟨_, hc, t_OB.to (V := updV (vp_V fs) k v) ⟨_, e1, q2, q3, t_set q4 hap hk v⟩ (fun j _ => vp_updV_set hl v j)⟩
end PTO
def nPc (g : gT) (av : List Value) (sz : Nat) (PH : Heap → Prop) : Array Value → State → Prop := va_Pc av (fun U => U.heap.size = sz ∧ KK g U ∧ PH U.heap)
abbrev fA (A : Nat → Prop) (sz : Nat) : Nat → Prop := fun q => A q ∨ sz ≤ q
def nQ (POST : Option Value → Heap → Prop) (A : Nat → Prop) : Array Value → State → Outcome → State → Prop := fun _ st oc t => ∃ v, oc = .returned v ∧ POST v t.heap ∧ va_F A st t
abbrev nM (g : gT) (l : Launch) (y : MethodName) (ws : List Cond) (rm : Room) (av : List Value) (sz : Nat) (PH : Heap → Prop) (POST : Option Value → Heap → Prop) (mc ms : Nat) (A : Nat → Prop) : Prop := Met l y ws rm (nPc g av sz PH) (nQ POST (fA A sz)) mc ms (fA A sz)
theorem nPc_blind {g : gT} {av : List Value} {sz : Nat} {PH : Heap → Prop} : FrameBlind (nPc g av sz PH) := fun a U f mk h => ⟨h.1, h.2.1, h.2.2.1.calling, h.2.2.2⟩
section NLAY
variable {p : Program} {l : Launch} {e : Env} {R : Room} {s : State} {m : MethodId} {args : Array Value} {below : List Frame} {meth : Method} {c : Code} {H H0 : Heap} {locs : List Loc} {cells slots : Nat} {Q : State → Prop}
variable {pc : Nat} {ls : Array Slot} {rest st0 : List Value} {cc : ByteArray} {A0 A1 : Nat → Prop} {g : gT} {a : Array Value} {sz mc ms : Nat}
theorem n_call {POST : Option Value → Heap → Prop} (hr : va_Run p l e R s m args below meth c H locs cells slots mc ms (F0 m pc ls st0) rest (nQ POST (fA A1 H.size) a) (fA A1 H.size)) (hS : va_S A0 H0 H locs) (hA : ∀ q, A1 q → A0 q) (hF : ∀ q, H0.size ≤ q → A0 q)
    (kk : ∀ (v : Option Value) (H1 : Heap) (locs1 : List Loc), POST v H1 → CH A1 H H1 → va_S A0 H0 H1 locs1 → W p l e R s m args below meth c H1 locs1 (cells + mc) (slots + ms) Q (F0 m (pc + 3) ls (v.toList ++ rest))) : W p l e R s m args below meth c H locs cells slots Q (F0 m pc ls st0) := by
  intro T hT X
  obtain ⟨v9, st₀, t, T', L, h0, X', hL, e1, e2, ⟨v, hv, hp, hz, hk⟩, st⟩ := hr T hT X
  cases hv
  rw [h0] at hz hk
  have hC : CH A1 H T'.heap := ⟨by rw [e1]; exact hz, fun q h1 h2 => by rw [e1]; exact hk q h1 fun z => z.elim h2 (fun z => absurd h1 (Nat.not_lt.mpr z))⟩
  have hin : ∀ q, fA A1 H.size q → A0 q := fun q z => z.elim (hA q) (fun z => hF q (Nat.le_trans hS.1 z))
  obtain ⟨t2, a1, b1⟩ := kk v9 T'.heap (locs ++ L) (by rw [e1]; exact hp) hC
    ⟨Nat.le_trans hS.1 hC.1, fun q h1 h2 => (hC.2 q (Nat.lt_of_lt_of_le h1 hS.1) fun z => h2 (hA q z)).trans (hS.2.1 q h1 h2), fun q hq => by
      rcases List.mem_append.mp hq with h | h
      · exact hS.2.2 q h
      · exact hin _ (hL q h)⟩ T' rfl X'
  exact ⟨t2, st t2 a1, b1⟩
variable {y : MethodName} {bytes : ByteArray} {maxL nL n index : Nat} {ret : Option FieldType} {ws ws' : List Cond} {rm : Room} {PH : Heap → Prop} {Ts : List Cond} {own C host : String} {b : Addr} {As av : List Value} {POST : Option Value → Heap → Prop} {A : Nat → Prop}
theorem n_V (S : CallFix p m c cc nL s args Ts own) (hM : nM g l y ws rm (.ref b :: As) H.size PH POST mc ms A1) (cw : CallW R s args own C index y bytes maxL ret ws rm mc ms n) (hK : KK g s) (hrec : ∃ cellB : Cell, H[b]? = some cellB ∧ cellB.vm.isStatics = false ∧ s.vm.findClass C = some cellB.cls) (hPH : PH H) (hS : va_S A0 H0 H locs) (hA : ∀ q, A1 q → A0 q) (hF : ∀ q, H0.size ≤ q → A0 q) (hn : As.length = n) (hsize : ls.size = nL) (hst : st0 = As.reverse ++ .ref b :: rest) (hW : (rest.map fun v => v.category).sum ≤ 8) (hdg : decode cc pc = .ok (.invokevirtual index, 3)) (hf : cells + mc ≤ R.cells ∧ slots + ms ≤ R.slots)
    (kk : ∀ (v : Option Value) (H1 : Heap) (locs1 : List Loc), POST v H1 → CH A1 H H1 → va_S A0 H0 H1 locs1 → W p l e R s m args below meth c H1 locs1 (cells + mc) (slots + ms) Q (F0 m (pc + 3) ls (v.toList ++ rest))) : W p l e R s m args below meth c H locs cells slots Q (F0 m pc ls st0) :=
  n_call (va_runV S hM cw ⟨nPc_blind, hrec, fun U hU hWm => ⟨rfl, by rw [hU], hK.warm hWm, by rw [hU]; exact hPH⟩⟩ rfl hn hsize hst (lv_room hW) hdg hf) hS hA hF kk
theorem n_S (S : CallFix p m c cc nL s args Ts own) (hM : nM g l y ws rm As H.size PH POST mc ms A1) (cw : CallB R s args own index y bytes maxL ret ws rm mc ms n ∧ (Cond.static y).before args s = true) (hK : KK g s) (hPH : PH H) (hS : va_S A0 H0 H locs) (hA : ∀ q, A1 q → A0 q) (hF : ∀ q, H0.size ≤ q → A0 q) (hn : As.length = n) (hsize : ls.size = nL) (hst : st0 = As.reverse ++ rest) (hW : (rest.map fun v => v.category).sum ≤ 8) (hdg : decode cc pc = .ok (.invokestatic index, 3)) (hf : cells + mc ≤ R.cells ∧ slots + ms ≤ R.slots)
    (kk : ∀ (v : Option Value) (H1 : Heap) (locs1 : List Loc), POST v H1 → CH A1 H H1 → va_S A0 H0 H1 locs1 → W p l e R s m args below meth c H1 locs1 (cells + mc) (slots + ms) Q (F0 m (pc + 3) ls (v.toList ++ rest))) : W p l e R s m args below meth c H locs cells slots Q (F0 m pc ls st0) :=
  n_call (va_runS S hM cw ⟨nPc_blind, fun U hU hWm => ⟨rfl, by rw [hU], hK.warm hWm, by rw [hU]; exact hPH⟩⟩ rfl hn hsize hst (lv_room hW) hdg hf) hS hA hF kk
/-- the body of a method that makes cells -/
theorem nr_ofI (hy : plainName y.cls = true) (hw : ws = Cond.code y cc maxL (some .int) :: ws') (hlen : (lg_sl av).length ≤ maxL)
    (body : ∀ (p : Program) (e : Env) (s : State) (m : MethodId) (args : Array Value) (below : List Frame) (meth : Method) (c : Code) (ls : Array Slot) (Q : State → Prop), p.tables.exec = Jvm.exec → c.code = cc → c.maxLocals = maxL → (∀ w ∈ ws, w.before args s = true) → s.vm.findClass y.cls = some m.cls → KK g s → s.heap.size = sz → PH s.heap → lv_has ls maxL (lv_args 0 av) →
      (∀ (pc : Nat) (ls : Array Slot) (H : Heap) (locs : List Loc) (x : Int32), POST (some (.int x)) H → va_S (fA A sz) s.heap H locs → decode cc pc = .ok (.ireturn, 1) → W p l e rm s m args below meth c H locs mc ms Q (F0 m pc ls [.int x])) →
      W p l e rm s m args below meth c s.heap [] 0 0 Q (F0 m 0 ls [])) : nM g l y ws rm av sz PH POST mc ms A := by
  refine Met.ofW (cc := cc) (maxL := maxL) (ret := (some .int)) hy hw ?_
  intro p e s m args below meth c s₁ B hml hv
  obtain ⟨rfl, hsz, hK, hP⟩ := hv
  have hl := lv_entry av (n := maxL) hlen
  rw [lg_entry_eq]
  exact body p e s m _ below meth c _ _ B.exec B.bytes hml (atoms_spec B.pre) (findClass_of_methodNamed B.named) hK hsz hP hl (fun pc ls H locs x hp hS hd => W.iret B.exec B.bytes B.returns (fun t ht _ => ⟨_, rfl, by rw [ht]; exact hp, hS.F ht⟩) hS.2.2 hd B.notSynchronized)
theorem nr_ofV (hy : plainName y.cls = true) (hw : ws = Cond.code y cc maxL none :: ws') (hlen : (lg_sl av).length ≤ maxL)
    (body : ∀ (p : Program) (e : Env) (s : State) (m : MethodId) (args : Array Value) (below : List Frame) (meth : Method) (c : Code) (ls : Array Slot) (Q : State → Prop), p.tables.exec = Jvm.exec → c.code = cc → c.maxLocals = maxL → (∀ w ∈ ws, w.before args s = true) → s.vm.findClass y.cls = some m.cls → KK g s → s.heap.size = sz → PH s.heap → lv_has ls maxL (lv_args 0 av) →
      (∀ (pc : Nat) (ls : Array Slot) (H : Heap) (locs : List Loc), POST none H → va_S (fA A sz) s.heap H locs → decode cc pc = .ok (.return_, 1) → W p l e rm s m args below meth c H locs mc ms Q (F0 m pc ls [])) →
      W p l e rm s m args below meth c s.heap [] 0 0 Q (F0 m 0 ls [])) : nM g l y ws rm av sz PH POST mc ms A := by
  refine Met.ofW (cc := cc) (maxL := maxL) (ret := none) hy hw ?_
  intro p e s m args below meth c s₁ B hml hv
  obtain ⟨rfl, hsz, hK, hP⟩ := hv
  have hl := lv_entry av (n := maxL) hlen
  rw [lg_entry_eq]
  exact body p e s m _ below meth c _ _ B.exec B.bytes hml (atoms_spec B.pre) (findClass_of_methodNamed B.named) hK hsz hP hl (fun pc ls H locs hp hS hd => W.vret B.exec B.bytes B.returns (fun t ht _ => ⟨_, rfl, by rw [ht]; exact hp, hS.F ht⟩) hS.2.2 hd B.notSynchronized)
theorem nr_ofZ (hy : plainName y.cls = true) (hw : ws = Cond.code y cc maxL (some .boolean) :: ws') (hlen : (lg_sl av).length ≤ maxL)
    (body : ∀ (p : Program) (e : Env) (s : State) (m : MethodId) (args : Array Value) (below : List Frame) (meth : Method) (c : Code) (ls : Array Slot) (Q : State → Prop), p.tables.exec = Jvm.exec → c.code = cc → c.maxLocals = maxL → (∀ w ∈ ws, w.before args s = true) → s.vm.findClass y.cls = some m.cls → KK g s → s.heap.size = sz → PH s.heap → lv_has ls maxL (lv_args 0 av) →
      (∀ (pc : Nat) (ls : Array Slot) (H : Heap) (locs : List Loc) (b : Bool), POST (some (.int (bI b))) H → va_S (fA A sz) s.heap H locs → decode cc pc = .ok (.ireturn, 1) → W p l e rm s m args below meth c H locs mc ms Q (F0 m pc ls [.int (bI b)])) →
      W p l e rm s m args below meth c s.heap [] 0 0 Q (F0 m 0 ls [])) : nM g l y ws rm av sz PH POST mc ms A := by
  refine Met.ofW (cc := cc) (maxL := maxL) (ret := (some .boolean)) hy hw ?_
  intro p e s m args below meth c s₁ B hml hv
  obtain ⟨rfl, hsz, hK, hP⟩ := hv
  have hl := lv_entry av (n := maxL) hlen
  rw [lg_entry_eq]
  exact body p e s m _ below meth c _ _ B.exec B.bytes hml (atoms_spec B.pre) (findClass_of_methodNamed B.named) hK hsz hP hl (fun pc ls H locs b hp hS hd => W.zret B.exec B.bytes B.returns (bI_n b) (fun t ht _ => ⟨_, rfl, by rw [ht]; exact hp, hS.F ht⟩) hS.2.2 hd B.notSynchronized)
theorem nr_ofA {rt : FieldType} (hrt : (∃ n, rt = .object n) ∨ ∃ t, rt = .array t) (hy : plainName y.cls = true) (hw : ws = Cond.code y cc maxL (some rt) :: ws') (hlen : (lg_sl av).length ≤ maxL)
    (body : ∀ (p : Program) (e : Env) (s : State) (m : MethodId) (args : Array Value) (below : List Frame) (meth : Method) (c : Code) (ls : Array Slot) (Q : State → Prop), p.tables.exec = Jvm.exec → c.code = cc → c.maxLocals = maxL → (∀ w ∈ ws, w.before args s = true) → s.vm.findClass y.cls = some m.cls → KK g s → s.heap.size = sz → PH s.heap → lv_has ls maxL (lv_args 0 av) →
      (∀ (pc : Nat) (ls : Array Slot) (H : Heap) (locs : List Loc) (x : Nat), POST (some (.ref x)) H → va_S (fA A sz) s.heap H locs → decode cc pc = .ok (.areturn, 1) → W p l e rm s m args below meth c H locs mc ms Q (F0 m pc ls [.ref x])) →
      W p l e rm s m args below meth c s.heap [] 0 0 Q (F0 m 0 ls [])) : nM g l y ws rm av sz PH POST mc ms A := by
  refine Met.ofW (cc := cc) (maxL := maxL) (ret := some rt) hy hw ?_
  intro p e s m args below meth c s₁ B hml hv
  obtain ⟨rfl, hsz, hK, hP⟩ := hv
  have hl := lv_entry av (n := maxL) hlen
  rw [lg_entry_eq]
  exact body p e s m _ below meth c _ _ B.exec B.bytes hml (atoms_spec B.pre) (findClass_of_methodNamed B.named) hK hsz hP hl (fun pc ls H locs x hp hS hd => W.aret B.exec B.bytes B.returns hrt (Or.inr ⟨_, rfl⟩) (fun t ht _ => ⟨_, rfl, by rw [ht]; exact hp, hS.F ht⟩) hS.2.2 hd B.notSynchronized)
end NLAY
/-- the law's desk by hand: its object, its rows of letters and envelopes, the signs of each letter, and of each envelope's letter as it was -/
def SW (g : gT) (B so la ea : Nat) (ra xa ta : Nat → Nat) (LL : Nat → ltT) (EE : Nat → evT) (TT : Nat → (Nat → Int32) × Nat) (lc ec : Nat) (H : Heap) : Prop :=
  (va_P (gD g) vwCl (soW so la ea) H ∧ va_P (gD g) vwCl (rmW g la (fun i => some (ra i)) lc) H ∧ va_P (gD g) vwCl (rvW g ea (fun q => some (xa q)) ec) H) ∧
  (B ≤ so ∧ B ≤ la ∧ B ≤ ea ∧ ¬ so = la ∧ ¬ so = ea ∧ ¬ la = ea) ∧
  (∀ i, i < lc → va_P (gD g) vwCl (rwW g (ra i) (LL i).1 (LL i).2.2) H ∧ B ≤ ra i ∧ ¬ ra i = so ∧ ¬ ra i = la) ∧
  ∀ q, q < ec → va_P (gD g) vwCl (xeW (xa q) (ta q) (EE q).1 (EE q).2.1 (EE q).2.2.2.2.2.2.1) H ∧ va_P (gD g) vwCl (rwW g (ta q) (TT q).1 (TT q).2) H ∧ B ≤ xa q ∧ B ≤ ta q ∧ (¬ xa q = so ∧ ¬ xa q = la) ∧ ¬ ta q = so ∧ ¬ ta q = la
section SWL
variable {g : gT} {B so la ea la2 ea2 : Nat} {ra xa ta : Nat → Nat} {LL LL2 : Nat → ltT} {EE EE2 : Nat → evT} {TT TT2 : Nat → (Nat → Int32) × Nat} {lc ec : Nat} {H H1 : Heap} {A : Nat → Prop}
theorem SW.keep (h : SW g B so la ea ra xa ta LL EE TT lc ec H) (hC : CH A H H1) (hA : ∀ q, B ≤ q → q < H.size → ¬ A q) : SW g B so la ea ra xa ta LL EE TT lc ec H1 := by
  obtain ⟨⟨a1, a2, a3⟩, b, c, d⟩ := h
  refine ⟨⟨hC.one a1 (hA _ b.1 (one_lt a1)), hC.one a2 (hA _ b.2.1 (one_lt a2)), hC.one a3 (hA _ b.2.2.1 (one_lt a3))⟩, b, fun i hi => ?_, fun q hq => ?_⟩
  · obtain ⟨c1, c2, c3⟩ := c i hi
    exact ⟨hC.one c1 (hA _ c2 (one_lt c1)), c2, c3⟩
  · obtain ⟨d1, d2, d3, d4, d5⟩ := d q hq
    exact ⟨hC.one d1 (hA _ d3 (one_lt d1)), hC.one d2 (hA _ d4 (one_lt d2)), d3, d4, d5⟩
theorem SW.keepN (h : SW g B so la ea ra xa ta LL EE TT lc ec H) (hC : CH nil_ H H1) : SW g B so la ea ra xa ta LL EE TT lc ec H1 := h.keep hC fun _ _ _ z => z
theorem SW.lets (h : SW g B so la ea ra xa ta LL EE TT lc ec H) (hL : ∀ i, i < lc → (LL2 i).2.2 = (LL i).2.2 ∧ ∀ j, j < (LL i).2.2 → (LL i).1 j = (LL2 i).1 j) : SW g B so la ea ra xa ta LL2 EE TT lc ec H := by
  obtain ⟨a, b, c, d⟩ := h
  refine ⟨a, b, fun i hi => ?_, d⟩
  obtain ⟨c1, c2⟩ := c i hi
  obtain ⟨e1, e2⟩ := hL i hi
  exact ⟨by rw [e1]; exact rw_eq c1 e2, c2⟩
theorem SW.envs (h : SW g B so la ea ra xa ta LL EE TT lc ec H) (hL : ∀ q, q < ec → (EE2 q).1 = (EE q).1 ∧ (EE2 q).2.1 = (EE q).2.1 ∧ (EE2 q).2.2.2.2.2.2.1 = (EE q).2.2.2.2.2.2.1) : SW g B so la ea ra xa ta LL EE2 TT lc ec H := by
  obtain ⟨a, b, c, d⟩ := h
  refine ⟨a, b, c, fun q hq => ?_⟩
  obtain ⟨e1, e2, e3⟩ := hL q hq
  rw [e1, e2, e3]
  exact d q hq
/-- one letter's row is another one now -/
theorem SW.set (h : SW g B so la ea ra xa ta LL EE TT lc ec H) (hC : CH (fun q => q = la) H H1) {k r n : Nat} {f w : Nat → Int32} (hr : va_P (gD g) vwCl (rwW g r f n) H) (hB : B ≤ r) (h1 : ¬ r = so) (h2 : ¬ r = la) (hla : va_P (gD g) vwCl (rmW g la (va_up (fun i => some (ra i)) k (some r)) lc) H1) : SW g B so la ea (fup ra k r) xa ta (fup LL k ((f, w, n) : ltT)) EE TT lc ec H1 := by
  obtain ⟨⟨a1, a2, a3⟩, ⟨b1, b2, b3, b4, b5, b6⟩, c, d⟩ := h
  refine ⟨⟨hC.one a1 b4, rq_ext hla fun j _ => ?_, hC.one a3 (fun z => b6 z.symm)⟩, ⟨b1, b2, b3, b4, b5, b6⟩, fun i hi => ?_, fun q hq => ?_⟩
  · by_cases hj : j = k
    · subst hj; rw [fup_at, va_up_self]
    · rw [fup_ne _ _ hj, va_up_ne _ _ hj]
  · by_cases hj : i = k
    · subst hj; rw [fup_at, fup_at]; exact ⟨hC.one hr h2, hB, h1, h2⟩
    · rw [fup_ne _ _ hj, fup_ne _ _ hj]
      obtain ⟨c1, c2, c3, c4⟩ := c i hi
      exact ⟨hC.one c1 c4, c2, c3, c4⟩
  · obtain ⟨d1, d2, d3, d4, ⟨d5, d6⟩, d7, d8⟩ := d q hq
    exact ⟨hC.one d1 d6, hC.one d2 d8, d3, d4, ⟨d5, d6⟩, d7, d8⟩
/-- one letter more -/
theorem SW.add (h : SW g B so la ea ra xa ta LL EE TT lc ec H) (hC : CH (fun q => q = so) H H1) (hBH : B ≤ H.size) {r n : Nat} {f w : Nat → Int32} (hr : va_P (gD g) vwCl (rwW g r f n) H) (hB : B ≤ r) (h1 : ¬ r = so) (hso : va_P (gD g) vwCl (soW so la2 ea) H1) (hsz : H.size ≤ la2) (hla : va_P (gD g) vwCl (rmW g la2 (fun i => some (fup ra lc r i)) (lc + 1)) H1) : SW g B so la2 ea (fup ra lc r) xa ta (fup LL lc ((f, w, n) : ltT)) EE TT (lc + 1) ec H1 := by
  obtain ⟨⟨a1, a2, a3⟩, ⟨b1, b2, b3, b4, b5, b6⟩, c, d⟩ := h
  have l1 := one_lt a1
  have l3 := one_lt a3
  have lr := one_lt hr
  refine ⟨⟨hso, hla, hC.one a3 (fun z => b5 z.symm)⟩, ⟨b1, by omega, b3, by omega, b5, by omega⟩, fun i hi => ?_, fun q hq => ?_⟩
  · by_cases hj : i = lc
    · subst hj; rw [fup_at, fup_at]; exact ⟨hC.one hr h1, hB, h1, by omega⟩
    · rw [fup_ne _ _ hj, fup_ne _ _ hj]
      obtain ⟨c1, c2, c3, c4⟩ := c i (by omega)
      have l4 := one_lt c1
      exact ⟨hC.one c1 c3, c2, c3, by omega⟩
  · obtain ⟨d1, d2, d3, d4, ⟨d5, d6⟩, d7, d8⟩ := d q hq
    have l5 := one_lt d1
    have l6 := one_lt d2
    exact ⟨hC.one d1 d5, hC.one d2 d7, d3, d4, ⟨d5, by omega⟩, d7, by omega⟩
/-- one envelope more -/
theorem SW.seal (h : SW g B so la ea ra xa ta LL EE TT lc ec H) (hC : CH (fun q => q = so) H H1) (hBH : B ≤ H.size) {k x : Nat} (hk : k < lc) {e : evT} (hso : va_P (gD g) vwCl (soW so la ea2) H1) (hsz : H.size ≤ ea2) (hsx : H.size ≤ x) (hx : va_P (gD g) vwCl (xeW x (ra k) e.1 e.2.1 e.2.2.2.2.2.2.1) H1) (hea : va_P (gD g) vwCl (rvW g ea2 (fun i => some (fup xa ec x i)) (ec + 1)) H1) : SW g B so la ea2 ra (fup xa ec x) (fup ta ec (ra k)) LL (fup EE ec e) (fup TT ec ((LL k).1, (LL k).2.2)) lc (ec + 1) H1 := by
  obtain ⟨⟨a1, a2, a3⟩, ⟨b1, b2, b3, b4, b5, b6⟩, c, d⟩ := h
  have l1 := one_lt a1
  have l2 := one_lt a2
  refine ⟨⟨hso, hC.one a2 (fun z => b4 z.symm), hea⟩, ⟨b1, b2, by omega, b4, by omega, by omega⟩, fun i hi => ?_, fun q hq => ?_⟩
  · obtain ⟨c1, c2, c3, c4⟩ := c i hi
    exact ⟨hC.one c1 c3, c2, c3, c4⟩
  · by_cases hj : q = ec
    · subst hj
      rw [fup_at, fup_at, fup_at, fup_at]
      obtain ⟨c1, c2, c3, c4⟩ := c k hk
      exact ⟨hx, hC.one c1 c3, by omega, c2, ⟨by omega, by omega⟩, c3, c4⟩
    · rw [fup_ne _ _ hj, fup_ne _ _ hj, fup_ne _ _ hj, fup_ne _ _ hj]
      obtain ⟨d1, d2, d3, d4, ⟨d5, d6⟩, d7, d8⟩ := d q (by omega)
      exact ⟨hC.one d1 d5, hC.one d2 d7, d3, d4, ⟨d5, d6⟩, d7, d8⟩
/-- one envelope less -/
theorem SW.unseal (h : SW g B so la ea ra xa ta LL EE TT lc ec H) (hC : CH (fun q => q = so) H H1) (hBH : B ≤ H.size) (hso : va_P (gD g) vwCl (soW so la ea2) H1) (hsz : H.size ≤ ea2) (hea : va_P (gD g) vwCl (rvW g ea2 (fun i => some (xa i)) (ec - 1)) H1) : SW g B so la ea2 ra xa ta LL EE TT lc (ec - 1) H1 := by
  obtain ⟨⟨a1, a2, a3⟩, ⟨b1, b2, b3, b4, b5, b6⟩, c, d⟩ := h
  have l1 := one_lt a1
  have l2 := one_lt a2
  refine ⟨⟨hso, hC.one a2 (fun z => b4 z.symm), hea⟩, ⟨b1, b2, by omega, b4, by omega, by omega⟩, fun i hi => ?_, fun q hq => ?_⟩
  · obtain ⟨c1, c2, c3, c4⟩ := c i hi
    exact ⟨hC.one c1 c3, c2, c3, c4⟩
  · obtain ⟨d1, d2, d3, d4, ⟨d5, d6⟩, d7, d8⟩ := d q (by omega)
    exact ⟨hC.one d1 d5, hC.one d2 d7, d3, d4, ⟨d5, d6⟩, d7, d8⟩
end SWL
