/-! SPEC, fourth: means; rows filled from a place on; copying within a row -/
def sN (NN : Nat → Nat) : Nat → Nat
  | 0 => 0
  | i + 1 => sN NN i + NN i
theorem sN_le {NN : Nat → Nat} {c : Nat} : ∀ {i : Nat}, (∀ j, j < i → NN j ≤ c) → sN NN i ≤ i * c
  | 0, _ => Nat.zero_le _
  | i + 1, h => by
    rw [sN, Nat.succ_mul]
    exact Nat.add_le_add (sN_le fun j hj => h j (by omega)) (h i (by omega))
theorem sN_congr {N M : Nat → Nat} : ∀ {i : Nat}, (∀ j, j < i → N j = M j) → sN N i = sN M i
  | 0, _ => rfl
  | i + 1, h => by rw [sN, sN, sN_congr (i := i) fun j hj => h j (by omega), h i (by omega)]
theorem mean_b : ∀ t, t < 481 → ∀ c, c < 13 → c = 0 ∨ FP.ddiv (FP.i2d (nI t)) (FP.i2d (nI c)) &&& 0x7fffffffffffffff ≤ 0x7ff0000000000000 := by decide +kernel
theorem mean_ok {t c : Nat} (ht : t < 481) (hc : c < 13) (h0 : ¬ c = 0) : vf_n64 (FP.ddiv (FP.i2d (nI t)) (FP.i2d (nI c))) := (mean_b t ht c hc).resolve_left h0
def mnD (lc t : Nat) : UInt64 := if lc = 0 then FP.dconst0 else FP.ddiv (FP.i2d (nI t)) (FP.i2d (nI lc))
/-- f, but from a on the first i of gg -/
def pbF (f : Nat → Int32) (a : Nat) (gg : Nat → Int32) (i : Nat) : Nat → Int32 := fun j => if a ≤ j ∧ j < a + i then gg (j - a) else f j
theorem pbF_0 (f : Nat → Int32) (a : Nat) (gg : Nat → Int32) : pbF f a gg 0 = f := by
  funext j
  exact if_neg (by omega)
theorem pbF_up (f : Nat → Int32) (a : Nat) (gg : Nat → Int32) (i : Nat) : pbF f a gg (i + 1) = upd (pbF f a gg i) (a + i) (gg i) := by
  funext j
  unfold pbF upd
  by_cases h : j = a + i
  · subst h
    rw [if_pos ⟨by omega, by omega⟩, if_pos rfl, show a + i - a = i by omega]
  · rw [if_neg h]
    show (if a ≤ j ∧ j < a + (i + 1) then gg (j - a) else f j) = if a ≤ j ∧ j < a + i then gg (j - a) else f j
    by_cases h2 : a ≤ j ∧ j < a + i
    · rw [if_pos h2, if_pos (by omega)]
    · rw [if_neg h2, if_neg (by omega)]
theorem pbF_in {f : Nat → Int32} {a : Nat} {gg : Nat → Int32} {i j : Nat} (h : j < i) : pbF f a gg i (a + j) = gg j := by
  unfold pbF
  rw [if_pos ⟨by omega, by omega⟩, show a + j - a = j by omega]
theorem pbF_out {f : Nat → Int32} {a : Nat} {gg : Nat → Int32} {i j : Nat} (h : j < a ∨ a + i ≤ j) : pbF f a gg i j = f j := if_neg (by omega)
section CPY
variable {p : Program} {l : Launch} {e : Env} {R : Room} {s : State} {m : MethodId} {args : Array Value} {below : List Frame} {meth : Method} {c : Code} {H : Heap} {locs : List Loc} {cells slots : Nat} {Q : State → Prop}
variable {pc : Nat} {ls : Array Slot} {rest : List Value} {cc : ByteArray} {A0 : Nat → Prop} {H0 : Heap}
theorem cp_I {D : va_G} {cl : List vw_C} {ws : va_W} {a : Nat} {cA : ClassId} {t1 : List (ClassId × FieldType)} {A : Nat → Prop} {sp dp n n0 index : Nat} {f : Nat → Int32} {own : String} (hexec : p.tables.exec = Jvm.exec) (hb : c.code = cc) (hml : c.maxLocals = ls.size) (hown : s.vm.findClass own = some m.cls) (hlink : (Cond.methodLink own index arraycopyName).before args s = true) (hnat : (Cond.native arraycopyName).before args s = true) (hstat : (Cond.static arraycopyName).before args s = true) (hini : (Cond.initialized "java/lang/System").before args s = true)
    (hK : va_K D cl ((cA, .int) :: t1) s) (hP : va_P D cl ws H) (hD : va_D A ws) (hS : va_S A H0 H locs) (q0 : Nat) (ha : ws[q0]? = some (a, .inl (cA, n0, .inl f))) (h1 : sp + n ≤ n0) (h2 : dp + n ≤ n0) (h3 : n0 < 2 ^ 31)
    (hframes : 1 ≤ R.frames) (hlocals : (rest.map fun v => v.category).sum + 18 ≤ R.locals) (hdg : decode cc pc = .ok (.invokestatic index, 3))
    (kk : ∀ (H1 : Heap) (locs1 : List Loc), va_P D cl (ws.set q0 (a, .inl (cA, n0, .inl (va_cpy f f sp dp n)))) H1 → va_D A (ws.set q0 (a, .inl (cA, n0, .inl (va_cpy f f sp dp n)))) → va_S A H0 H1 locs1 → W p l e R s m args below meth c H1 locs1 cells slots Q (F0 m (pc + 3) ls rest)) : W p l e R s m args below meth c H locs cells slots Q (F0 m pc ls (.int (nI n) :: .int (nI dp) :: .ref a :: .int (nI sp) :: .ref a :: rest)) := by
  have e1 : (nI sp).toNatClampNeg = sp := nI_clamp (by omega)
  have e2 : (nI dp).toNatClampNeg = dp := nI_clamp (by omega)
  have e3 : (nI n).toNatClampNeg = n := nI_clamp (by omega)
  refine va_copyi (ty := .int) hexec hb hml hown hlink hnat hstat hini hK hP hD hS q0 q0 0 0 ha ha rfl rfl rfl (nI_pos (by omega)) (nI_pos (by omega)) (nI_pos (by omega)) (by rw [e1, e3]; exact h1) (by rw [e2, e3]; exact h2) (fun _ _ => rfl) hframes hlocals hdg ?_
  rw [e1, e2, e3]
  exact kk
end CPY
section WD
variable {g : gT} {l : Launch} {y : MethodName} {ws ws' : List Cond} {rm : Room} {av : List Value} {cs cs' : va_W} {cc : ByteArray} {maxL : Nat}
theorem wr_ofD {x : UInt64} (hy : plainName y.cls = true) (hw : ws = Cond.code y cc maxL (some .double) :: ws') (hlen : (lg_sl av).length ≤ maxL) (body : wBody g l y ws rm av cs cs' cc maxL .dreturn (some (.double x))) : wM g l y ws rm av cs (some (.double x)) cs' := by
  refine Met.ofW (cc := cc) (maxL := maxL) (ret := some .double) hy hw ?_
  intro p e s m args below meth c s₁ B hml hv
  obtain ⟨rfl, hK, hP, hD⟩ := hv
  have hl := lv_entry av (n := maxL) hlen
  rw [lg_entry_eq]
  exact body p e s m _ below meth c s.heap _ (wA cs) _ B.exec B.bytes hml (atoms_spec B.pre) (findClass_of_methodNamed B.named) hK hP (wA_self hD) va_S.rf hl (fun pc ls H locs hP hS hd => W.dret B.exec B.bytes B.returns (fun t ht _ => ⟨rfl, by rw [ht]; exact hP, hS.F ht⟩) hS.2.2 hd B.notSynchronized)
end WD
theorem lv_toD {p : Program} {l : Launch} {e : Env} {R : Room} {s : State} {m : MethodId} {args : Array Value} {below : List Frame} {meth : Method} {c : Code} {H : Heap} {locs : List Loc} {cells slots : Nat} {Q : State → Prop} {pc : Nat} {ls : Array Slot} {rest : List Value} {x z : UInt64} (h : x = z) (k : W p l e R s m args below meth c H locs cells slots Q (F0 m pc ls (.double z :: rest))) : W p l e R s m args below meth c H locs cells slots Q (F0 m pc ls (.double x :: rest)) := h ▸ k
