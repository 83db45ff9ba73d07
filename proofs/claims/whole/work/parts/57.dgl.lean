/-! THE REFERENCE'S digest makes rows of ints -/
def iPc (g : gT) (av : List Value) (sz : Nat) (cs : va_W) : Array Value → State → Prop := va_Pc av (fun U => U.heap.size = sz ∧ KK g U ∧ va_P (gD g) vwCl cs U.heap ∧ va_D (fun _ => True) cs)
theorem iPc_blind {g : gT} {av : List Value} {sz : Nat} {cs : va_W} : FrameBlind (iPc g av sz cs) := fun a U f mk h => ⟨h.1, h.2.1, h.2.2.1.calling, h.2.2.2⟩
theorem jr_of {g : gT} {l : Launch} {y : MethodName} {ws ws' : List Cond} {rm : Room} {av : List Value} {cs cs' : va_W} {cc : ByteArray} {maxL sz mc ms : Nat} {x : Int64} (hy : plainName y.cls = true) (hw : ws = Cond.code y cc maxL (some .long) :: ws') (hlen : (lg_sl av).length ≤ maxL)
    (body : ∀ (p : Program) (e : Env) (s : State) (m : MethodId) (args : Array Value) (below : List Frame) (meth : Method) (c : Code) (H0 : Heap) (ls : Array Slot) (A : Nat → Prop) (Q : State → Prop), p.tables.exec = Jvm.exec → c.code = cc → c.maxLocals = maxL → (∀ w ∈ ws, w.before args s = true) → s.vm.findClass y.cls = some m.cls → KK g s → va_P (gD g) vwCl cs H0 → va_D A cs → va_S A H0 H0 [] → (∀ q, H0.size ≤ q → A q) → lv_has ls maxL (lv_args 0 av) →
      (∀ (pc : Nat) (ls : Array Slot) (H : Heap) (locs : List Loc), va_P (gD g) vwCl cs' H → va_S A H0 H locs → decode cc pc = .ok (.lreturn, 1) → W p l e rm s m args below meth c H locs mc ms Q (F0 m pc ls [.long x])) →
      W p l e rm s m args below meth c H0 [] 0 0 Q (F0 m 0 ls [])) : Met l y ws rm (iPc g av sz cs) (wQ g (some (.long x)) cs' (va_A cs sz)) mc ms (va_A cs sz) := by
  refine Met.ofW (cc := cc) (maxL := maxL) (ret := some .long) hy hw ?_
  intro p e s m args below meth c s₁ B hml hv
  obtain ⟨rfl, hsz, hK, hP, hD⟩ := hv
  subst hsz
  have hl := lv_entry av (n := maxL) hlen
  rw [lg_entry_eq]
  exact body p e s m _ below meth c s.heap _ (va_A cs s.heap.size) _ B.exec B.bytes hml (atoms_spec B.pre) (findClass_of_methodNamed B.named) hK hP hD.self va_S.rf (fun q h => Or.inr h) hl (fun pc ls H locs hP hS hd => W.lret B.exec B.bytes B.returns (fun t ht _ => ⟨rfl, by rw [ht]; exact hP, hS.F ht⟩) hS.2.2 hd B.notSynchronized)
/-- a fold over a row of ints -/
def foJ (f : Nat → Int32) (d : Int64) : Nat → Int64
  | 0 => d
  | j + 1 => foJ f d j * 31 + (f j).toInt64
def wmJ (V : Nat → Nat → Int32) (NN : Nat → Nat) (d : Int64) (i : Nat) : Int64 := (((((((d * 31 + (V 0 i).toInt64) * 31 + (cntF (rwV V i) 27 (NN i)).toInt64) * 31 + (cntF (rwV V i) 30 (NN i)).toInt64) * 31 + (dgF (rwV V i) (NN i)).toInt64) * 31 + (prM (paP (rwV V i) 2 false) (NN i + 1 - 2)).toInt64) * 31 + (prM (paP (rwV V i) 2 true) (NN i + 1 - 2)).toInt64) * 31 + (unF (rwV V i) (NN i)).toInt64) * 31 + ((wmS (rwV V i) (fun j => dgF (wdV V i (nI j) 30) (NN i)) (dgF (rwV V i) (NN i)) (NN i)).1).toInt64
def weM (V : Nat → Nat → Int32) (NN LN SC : Nat → Nat) (d : Int64) (q : Nat) : Int64 := ((((((d * 31 + (V 2 q).toInt64) * 31 + (V 3 q).toInt64) * 31 + (V 8 q).toInt64) * 31 + (bI (asP V NN LN q)).toInt64) * 31 + (acF (toP V NN LN SC q) 0 8).toInt64) * 31 + (fsF (toP V NN LN SC q) 8 0).toInt64) * 31 + (chM (asP V NN LN q) (SC q) (NN (LN q)) (V 6 q - smF (rwV V (LN q)) (NN (LN q))) (V 7 q - wtF (rwV V (LN q)) (NN (LN q))) (rwV V (LN q))).toInt64
def dmL (V : Nat → Nat → Int32) (NN : Nat → Nat) (d : Int64) : Nat → Int64
  | 0 => d
  | i + 1 => wmJ V NN (dmL V NN d i) i
def dmE (V : Nat → Nat → Int32) (NN LN SC : Nat → Nat) (d : Int64) : Nat → Int64
  | 0 => d
  | i + 1 => weM V NN LN SC (dmE V NN LN SC d i) i
def dm0 (V : Nat → Nat → Int32) (NN LN : Nat → Nat) (lc ec : Nat) : Int64 := (((61349 + (nI lc).toInt64) * 31 + (nI ec).toInt64) * 31 + (prM (dbP (rwV V) NN) lc).toInt64) * 31 + (fsF (fun q => !asP V NN LN q) ec 0).toInt64
