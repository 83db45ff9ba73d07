/-! THE LAW'S HEAP: what changes and what stays; cells that are made; stores that say what else stays -/
/-- a row of ints; rows of references; the desk by hand; its envelope -/
abbrev rwW (g : gT) (r : Nat) (f : Nat → Int32) (n : Nat) : va_W := [(r, .inl (gI g, n, .inl f))]
abbrev rmW (g : gT) (r : Nat) (f : Nat → Option Nat) (n : Nat) : va_W := [(r, .inl (gM g, n, .inr (.inr (.inr (.inr f)))))]
abbrev rvW (g : gT) (r : Nat) (f : Nat → Option Nat) (n : Nat) : va_W := [(r, .inl (gV g, n, .inr (.inr (.inr (.inr f)))))]
abbrev soW (so la ea : Nat) : va_W := [(so, .inr (4, [.ref la, .ref ea]))]
abbrev xeW (x t : Nat) (le d sl : Int32) : va_W := [(x, .inr (3, [.int le, .ref t, .int d, .int sl]))]
def CH (A : Nat → Prop) (H H1 : Heap) : Prop := H.size ≤ H1.size ∧ ∀ q : Nat, q < H.size → ¬ A q → H1[q]? = H[q]?
abbrev nil_ : Nat → Prop := fun _ => False
section CHS
variable {D : va_G} {cl : List vw_C} {ws : va_W} {A B : Nat → Prop} {H H0 H1 H2 : Heap} {b : Nat} {E : va_E} {locs : List Loc}
theorem CH.rf : CH A H H := ⟨Nat.le_refl _, fun _ _ _ => rfl⟩
theorem CH.keep (h : CH A H H1) (hP : va_P D cl ws H) (hN : ∀ (k : Nat) (q : Nat × va_E), ws[k]? = some q → ¬ A q.1) : va_P D cl ws H1 := hP.kept fun k q hq => h.2 q.1 (hP k q hq).lt (hN k q hq)
theorem CH.one (h : CH A H H1) (hP : va_P D cl [(b, E)] H) (hN : ¬ A b) : va_P D cl [(b, E)] H1 := h.keep hP fun k q hq => by
  match k, hq with
  | 0, hq => cases hq; exact hN
  | k + 1, hq => simp at hq
theorem CH.trans (h : CH A H H1) (h2 : CH A H1 H2) : CH A H H2 := ⟨Nat.le_trans h.1 h2.1, fun q hq hA => (h2.2 q (Nat.lt_of_lt_of_le hq h.1) hA).trans (h.2 q hq hA)⟩
theorem CH.weaken (h : CH A H H1) (hAB : ∀ q, q < H.size → A q → B q) : CH B H H1 := ⟨h.1, fun q hq hB => h.2 q hq fun hA => hB (hAB q hq hA)⟩
theorem CH.S (h : CH A H H1) (hS : va_S B H0 H locs) (hAB : ∀ q, q < H0.size → A q → B q) : va_S B H0 H1 locs := ⟨Nat.le_trans hS.1 h.1, fun q h1 h2 => (h.2 q (Nat.lt_of_lt_of_le h1 hS.1) fun z => h2 (hAB q h1 z)).trans (hS.2.1 q h1 h2), hS.2.2⟩
theorem one_lt (hP : va_P D cl [(b, E)] H) : b < H.size := (hP 0 _ rfl).lt
theorem CH.oq {a : Nat} (z : H1.size = H.size) (o : ∀ q : Nat, q ≠ a → H1[q]? = H[q]?) : CH (fun q => q = a) H H1 := ⟨by omega, fun q _ hq => o q hq⟩
theorem CH.old {h : Nat} (z : H1.size = h + 1) (hh : H.size = h) (o : ∀ q : Nat, q < h → H1[q]? = H[q]?) : CH nil_ H H1 := ⟨by omega, fun q hq _ => o q (by omega)⟩
theorem P_one {a : ClassId × vp_A} (e : H[b]? = some (vp_cell a.1 a.2)) : va_P D cl [(b, .inl a)] H := fun k q hq => by
  match k, hq with
  | 0, hq => cases hq; exact e
  | k + 1, hq => simp at hq
end CHS
/-- a row of ints is known by its ints -/
theorem ints_eq {cA : ClassId} {n : Nat} {f f' : Nat → Int32} (h : ∀ j, j < n → f j = f' j) : vp_cell cA (n, .inl f) = vp_cell cA (n, .inl f') := by
  rw [vp_cell_i, vp_cell_i]
  unfold arrV
  congr 2
  funext j
  show Value.int (f j.1) = Value.int (f' j.1)
  rw [h j.1 j.2]
theorem rw_eq {g : gT} {r n : Nat} {f f' : Nat → Int32} {H : Heap} (hP : va_P (gD g) vwCl (rwW g r f n) H) (h : ∀ j, j < n → f j = f' j) : va_P (gD g) vwCl (rwW g r f' n) H := P_one (by
  have h1 : H[r]? = some (vp_cell (gI g) (n, .inl f)) := hP 0 _ rfl
  rw [h1]; exact congrArg some (ints_eq h))
theorem refs_eq' {cA : ClassId} {n : Nat} {f f' : Nat → Option Nat} (h : ∀ j, j < n → f j = f' j) : vp_cell cA (n, .inr (.inr (.inr (.inr f)))) = vp_cell cA (n, .inr (.inr (.inr (.inr f')))) := by
  rw [vp_cell_q, vp_cell_q]
  unfold arrV
  congr 2
  funext j
  show va_rf (f j.1) = va_rf (f' j.1)
  rw [h j.1 j.2]
theorem rq_ext {g : gT} {cA : ClassId} {r n : Nat} {f f' : Nat → Option Nat} {H : Heap} (hP : va_P (gD g) vwCl [(r, .inl (cA, n, .inr (.inr (.inr (.inr f)))))] H) (h : ∀ j, j < n → f j = f' j) : va_P (gD g) vwCl [(r, .inl (cA, n, .inr (.inr (.inr (.inr f')))))] H := P_one (by
  have h1 : H[r]? = some (vp_cell cA (n, .inr (.inr (.inr (.inr f))))) := hP 0 _ rfl
  rw [h1]; exact congrArg some (refs_eq' h))
section SIMR
variable {p : Program} {l : Launch} {e : Env} {R : Room} {s : State} {m : MethodId} {args : Array Value} {below : List Frame} {meth : Method} {c : Code} {H H0 : Heap} {locs : List Loc} {cells slots : Nat} {Q : State → Prop}
variable {pc : Nat} {ls : Array Slot} {rest st0 : List Value} {cc : ByteArray} {A : Nat → Prop} {g : gT} {a : Nat}
theorem nw_I (hexec : p.tables.exec = Jvm.exec) (hb : c.code = cc) (harr : (Cond.arrayClass .int).before args s = true) (hK : KK g s) (hS : va_S A H0 H locs) {n : Nat} (hn : n < 100000) (hcells : cells + 1 ≤ R.cells) (hslots : slots + n ≤ R.slots) (hdg : decode cc pc = .ok (.newarray .int, 2))
    (kk : ∀ (q : Nat) (H1 : Heap), H.size ≤ q → va_P (gD g) vwCl (rwW g q (fun _ => 0) n) H1 → CH nil_ H H1 → va_S A H0 H1 locs → W p l e R s m args below meth c H1 locs (cells + 1) (slots + n) Q (F0 m (pc + 2) ls (.ref q :: rest))) : W p l e R s m args below meth c H locs cells slots Q (F0 m pc ls (.int (nI n) :: rest)) := by
  refine va_newaK hexec hb (atype := .int) (N := n) (rest := rest) harr (by rfl) hdg (by rfl) (nI_pos (by omega)) (nI_clamp (by omega)) (by show n * 4 ≤ 536870912; omega) hcells hslots rfl (fun H1 cA e z old hT hf => ?_)
  have e1 : cA = gI g := Option.some.inj ((show s.vm.findClass ("[" ++ (FieldType.int).toString) = some cA from hf).symm.trans (hK.1.2 0 (gI g, .int) rfl).2)
  subst e1
  have hC : CH nil_ H H1 := CH.old z rfl old
  exact kk H.size H1 (Nat.le_refl _) (P_one e) hC (hC.S hS fun q _ h => h.elim)
theorem nw_A (hexec : p.tables.exec = Jvm.exec) (hb : c.code = cc) {own : String} {index : Nat} (hown : s.vm.findClass own = some m.cls) (hclink : (Cond.classLink own index "[I").before args s = true) (hK : KK g s) (hS : va_S A H0 H locs) {n : Nat} (hn : n < 100000) (hcells : cells + 1 ≤ R.cells) (hslots : slots + n ≤ R.slots) (hdg : decode cc pc = .ok (.anewarray index, 3))
    (kk : ∀ (q : Nat) (H1 : Heap), H.size ≤ q → va_P (gD g) vwCl (rmW g q (fun _ => none) n) H1 → CH nil_ H H1 → va_S A H0 H1 locs → W p l e R s m args below meth c H1 locs (cells + 1) (slots + n) Q (F0 m (pc + 3) ls (.ref q :: rest))) : W p l e R s m args below meth c H locs cells slots Q (F0 m pc ls (.int (nI n) :: rest)) := by
  have hN : (nI n).toNatClampNeg = n := nI_clamp (by omega)
  refine W.anewA (t := .int) (rest := rest) hexec hb hown hclink hK.2.2.2.2.2.2.2.2 (by rfl) hdg (by rfl) (nI_pos (by omega)) (by rw [hN]; omega) hcells (by rw [hN]; exact hslots) fun cA kA comp f1 f2 f3 f4 => ?_
  rw [hN]
  generalize hH1 : H.push ({ cls := cA, slots := Array.replicate n .null, vm := .none } : Cell) = H1
  have z1 : H1.size = H.size + 1 := by rw [← hH1, Array.size_push]
  have e1 : H1[H.size]? = some (arrV cA n (fun _ => .null)) := by rw [← hH1, Array.getElem?_push_size, ← arrV_new]
  have o1 : ∀ q : Nat, q < H.size → H1[q]? = H[q]? := fun q hq => by rw [← hH1, Array.getElem?_push, if_neg (Nat.ne_of_lt hq)]
  have e2 : cA = gM g := Option.some.inj (f1.symm.trans (hK.1.2 3 (gM g, .array .int) rfl).2)
  subst e2
  have hC : CH nil_ H H1 := CH.old z1 rfl o1
  exact kk H.size H1 (Nat.le_refl _) (P_one e1) hC (hC.S hS fun q _ h => h.elim)
theorem nw_V (hexec : p.tables.exec = Jvm.exec) (hb : c.code = cc) {own : String} {index : Nat} (hown : s.vm.findClass own = some m.cls) (hclink : (Cond.classLink own index "LetterSealsLaw$Envelope").before args s = true) (hK : KK g s) (hS : va_S A H0 H locs) {n : Nat} (hn : n < 100000) (hcells : cells + 1 ≤ R.cells) (hslots : slots + n ≤ R.slots) (hdg : decode cc pc = .ok (.anewarray index, 3))
    (kk : ∀ (q : Nat) (H1 : Heap), H.size ≤ q → va_P (gD g) vwCl (rvW g q (fun _ => none) n) H1 → CH nil_ H H1 → va_S A H0 H1 locs → W p l e R s m args below meth c H1 locs (cells + 1) (slots + n) Q (F0 m (pc + 3) ls (.ref q :: rest))) : W p l e R s m args below meth c H locs cells slots Q (F0 m pc ls (.int (nI n) :: rest)) := by
  have hN : (nI n).toNatClampNeg = n := nI_clamp (by omega)
  refine W.anew (C := "LetterSealsLaw$Envelope") (rest := rest) hexec hb hown hclink (va_AO.use hK.2.2.2.2.2.2.2.1) (by rfl) hdg (by rfl) (nI_pos (by omega)) (by rw [hN]; omega) hcells (by rw [hN]; exact hslots) fun cA kA comp f1 f2 f3 f4 => ?_
  rw [hN]
  generalize hH1 : H.push ({ cls := cA, slots := Array.replicate n .null, vm := .none } : Cell) = H1
  have z1 : H1.size = H.size + 1 := by rw [← hH1, Array.size_push]
  have e1 : H1[H.size]? = some (arrV cA n (fun _ => .null)) := by rw [← hH1, Array.getElem?_push_size, ← arrV_new]
  have o1 : ∀ q : Nat, q < H.size → H1[q]? = H[q]? := fun q hq => by rw [← hH1, Array.getElem?_push, if_neg (Nat.ne_of_lt hq)]
  obtain ⟨-, -, -, -, -, a2⟩ := (hK.1.2 4 (gV g, .object "LetterSealsLaw$Envelope") rfl).2
  have e2 : cA = gV g := Option.some.inj (f1.symm.trans a2)
  subst e2
  have hC : CH nil_ H H1 := CH.old z1 rfl o1
  exact kk H.size H1 (Nat.le_refl _) (P_one e1) hC (hC.S hS fun q _ h => h.elim)
theorem nw_O {own C : String} {T : u_T} {N ci index : Nat} {Ts : List Cond} (hexec : p.tables.exec = Jvm.exec) (hb : c.code = cc) (hts : ∀ w ∈ Ts, w.before args s = true) (hin : ∀ w ∈ u_ws C T N, w ∈ Ts) (ty : Nat → FieldType) (hty : ∀ k, k < N → parseFieldDescriptor (T k).2.2.1 = some (ty k)) (hown : s.vm.findClass own = some m.cls) (hcl : (Cond.classLink own index C).before args s = true) (hinst : (Cond.instantiable C N).before args s = true) (hini : (Cond.initialized C).before args s = true)
    (hK : KK g s) (hS : va_S A H0 H locs) (hc : vwCl[ci]? = some (C, T, N)) {fs : List Value} (hfs : ∀ j, j < N → defaultValue (ty j) = vp_V fs j) (hcells : cells + 1 ≤ R.cells) (hslots : slots + N ≤ R.slots) (hdg : decode cc pc = .ok (.new index, 3))
    (kk : ∀ (q : Nat) (H1 : Heap), H.size ≤ q → va_P (gD g) vwCl [(q, .inr (ci, fs))] H1 → CH nil_ H H1 → va_S A H0 H1 locs → W p l e R s m args below meth c H1 locs (cells + 1) (slots + N) Q (F0 m (pc + 3) ls (.ref q :: rest))) : W p l e R s m args below meth c H locs cells slots Q (F0 m pc ls rest) := by
  have hKn := hK.1.1 ci _ hc
  refine W.newcK hexec hb hown hcl hinst hini rfl hdg hcells hslots hKn.2.1 rfl fun H1 kC hkC e1 z1 o1 => ?_
  have hC : CH nil_ H H1 := CH.old z1 rfl o1
  refine kk H.size H1 (Nat.le_refl _) (fun k x hx => ?_) hC (hC.S hS fun q _ h => h.elim)
  have hz : k < 1 := (List.getElem?_eq_some_iff.mp hx).1
  rw [show k = 0 by omega] at hx
  cases hx
  exact ⟨_, hc, (u_born ty hts hin hKn hkC e1 hty).to hfs⟩
theorem nw_C (hexec : p.tables.exec = Jvm.exec) (hb : c.code = cc) (hml : c.maxLocals = ls.size) {own : String} {index : Nat} (hown : s.vm.findClass own = some m.cls)
    (hlink : (Cond.methodLink own index ⟨"[I", "clone", "()Ljava/lang/Object;"⟩).before args s = true) (hsame : (Cond.sameMethod "[I" "java/lang/Object" "clone" "()Ljava/lang/Object;").before args s = true)
    (hnat : (Cond.native ⟨"java/lang/Object", "clone", "()Ljava/lang/Object;"⟩).before args s = true) (hinst : (Cond.instanceMethod ⟨"java/lang/Object", "clone", "()Ljava/lang/Object;"⟩).before args s = true)
    (hsel : (Cond.selects "[I" ⟨"[I", "clone", "()Ljava/lang/Object;"⟩ ⟨"java/lang/Object", "clone", "()Ljava/lang/Object;"⟩).before args s = true)
    (hK : KK g s) (hS : va_S A H0 H locs) {f : Nat → Int32} {n : Nat} (hP : va_P (gD g) vwCl (rwW g a f n) H) (hframes : 1 ≤ R.frames) (hlocals : (rest.map fun v => v.category).sum + 14 ≤ R.locals) (hcells : cells + 1 ≤ R.cells) (hslots : slots + n ≤ R.slots) (hdg : decode cc pc = .ok (.invokevirtual index, 3))
    (kk : ∀ (q : Nat) (H1 : Heap), H.size ≤ q → va_P (gD g) vwCl (rwW g q f n) H1 → CH nil_ H H1 → va_S A H0 H1 locs → W p l e R s m args below meth c H1 locs (cells + 1) (slots + n) Q (F0 m (pc + 3) ls (.ref q :: rest))) : W p l e R s m args below meth c H locs cells slots Q (F0 m pc ls (.ref a :: rest)) := by
  obtain ⟨cA, hcA⟩ : ∃ cA : ClassId, cA = gI g := ⟨_, rfl⟩
  obtain ⟨x, hx⟩ : ∃ x : vp_A, x = (n, .inl f) := ⟨_, rfl⟩
  have hsz : (vp_cell cA x).slots.size = n := by rw [hx]; exact arrV_size _ _ _
  have hvm0 : (vp_cell cA x).vm = .none := by rw [hx]; rfl
  have hcl0 : (vp_cell cA x).cls = cA := by rw [hx]; rfl
  have hcellE : ({ cls := (vp_cell cA x).cls, slots := (vp_cell cA x).slots } : Cell) = vp_cell cA x := by rw [hx]; rfl
  have hfit : ∀ (i : Nat) (v : Value), (vp_cell cA x).slots[i]? = some v → fits .int v = true := by
    intro i v hv
    rw [hx] at hv
    have hi : i < n := by
      have h1 := (Array.getElem?_eq_some_iff.mp hv).1
      rw [vp_cell_i, arrV_size] at h1
      exact h1
    rw [vp_cell_i, arrV_read _ _ hi] at hv
    cases hv
    rfl
  have hnm : s.vm.findClass "[I" = some cA := by rw [hcA]; exact (hK.1.2 0 (gI g, .int) rfl).2
  have hcell : H[a]? = some (vp_cell cA x) := by rw [hcA, hx]; exact hP 0 _ rfl
  have hAr : ArrOfT s cA .int := by rw [hcA]; exact (hK.1.2 0 (gI g, .int) rfl).1
  obtain ⟨c0, t0', f1, f2, f3⟩ := Cond.castable_spec (va_Nw.use (A := args) rfl (hK.2.2.2.2.2.1 ("[I", "java/lang/Cloneable") (List.mem_of_getElem? (i := 3) rfl)))
  cases hnm.symm.trans f1
  intro T hT X
  have hcellT : T.heap[a]? = some (vp_cell cA x) := by rw [hT]; exact hcell
  obtain ⟨-, kA, hkA, comp, hkind⟩ := State.isArrayOf_alike X.warmed.alike (hAr 0 (fun _ => .null))
  obtain ⟨-, kS, hkS, compS, hkindS⟩ := hAr 0 (fun _ => .null)
  obtain ⟨vm', X', st⟩ := X.cloneArray hexec hown hlink hsame hnat hinst hsel (a := a) (cell := vp_cell cA x) hcellT (fun k h => by rw [hvm0] at h; cases h) (by rw [hvm0]; exact fun h => by cases h) (by rw [hcl0]; exact hnm) f2 (by rw [hcl0]; exact f3)
    (fun i v hv => by
      rw [hcl0]
      have hk' : T.vm.classes[cA]? = some kA := hkA
      simpa [State.fitsSlot, State.slotType?, hk', hkind] using hfit i v hv)
    (g := F0 m pc ls (.ref a :: rest)) rfl (by rw [hml]) rfl (by rw [hb]; exact hdg) hframes (by show 2 * 0 + _ + 14 ≤ _; omega) hcells (by rw [hsz]; exact hslots) (hloader := by rw [hcl0]; exact Vm.clonesLoader_of_array hkS hkindS)
  rw [hcellE, hsz] at X'
  generalize hH1 : H.push (vp_cell cA x) = H1
  have z1 : H1.size = H.size + 1 := by rw [← hH1, Array.size_push]
  have e1 : H1[H.size]? = some (vp_cell cA x) := by rw [← hH1, Array.getElem?_push_size]
  have o1 : ∀ q : Nat, q < H.size → H1[q]? = H[q]? := fun q hq => by rw [← hH1, Array.getElem?_push, if_neg (Nat.ne_of_lt hq)]
  have hC : CH nil_ H H1 := CH.old z1 rfl o1
  rw [hcA, hx] at e1
  obtain ⟨t, b1, b2⟩ := kk H.size H1 (Nat.le_refl _) (P_one e1) hC (hC.S hS fun q _ h => h.elim) ((T.setVm vm').pushCell (vp_cell cA x)) (by rw [← hH1, ← hT]; rfl) X'
  refine ⟨t, st t ?_, b2⟩
  rw [hcellE, hT]
  exact b1
/-- stores that say what else stays -/
theorem pt_I {k n : Nat} {f : Nat → Int32} {x : Int32} (hexec : p.tables.exec = Jvm.exec) (hb : c.code = cc) (hK : KK g s) (hP : va_P (gD g) vwCl (rwW g a f n) H) (hS : va_S A H0 H locs) (hA : A a) (hk : k < n) (hn : n < 2 ^ 31) (hdg : decode cc pc = .ok (.iastore, 1))
    (kk : ∀ (H1 : Heap) (locs1 : List Loc), va_P (gD g) vwCl (rwW g a (upd f k x) n) H1 → CH (fun q => q = a) H H1 → va_S A H0 H1 locs1 → W p l e R s m args below meth c H1 locs1 cells slots Q (F0 m (pc + 1) ls rest)) : W p l e R s m args below meth c H locs cells slots Q (F0 m pc ls (.int x :: .int (nI k) :: .ref a :: rest)) := by
  have hcl : (nI k).toNatClampNeg = k := nI_clamp (by omega)
  refine W.iast hexec hb (hP 0 _ rfl) ((hK.1.2 0 (gI g, .int) rfl).1 n (fun j => .int (f j))) (fun q => by cases q) (by show ¬ (nI k < 0 ∨ (arrV _ _ _).slots.size ≤ _); rw [arrV_size]; exact vp_in_nI hk (by omega)) rfl rfl hdg fun H1 e z oq => ?_
  refine kk H1 _ (P_one ?_) (CH.oq z oq) (hS.put z oq hA)
  rw [e]
  rw [vp_cell_i, vp_cell_i, arrV_store, hcl]
  congr 2
  funext q
  by_cases hq : q = k
  · subst hq
    simp [updV, upd]
  · simp [updV, upd, hq]
theorem pt_A {k n r N : Nat} {f : Nat → Option Nat} {h : Nat → Int32} (hexec : p.tables.exec = Jvm.exec) (hb : c.code = cc) (hK : KK g s) (hP : va_P (gD g) vwCl (rmW g a f n) H) (hr : va_P (gD g) vwCl (rwW g r h N) H) (hS : va_S A H0 H locs) (hA : A a) (hk : k < n) (hn : n < 2 ^ 31) (hdg : decode cc pc = .ok (.aastore, 1))
    (kk : ∀ (H1 : Heap) (locs1 : List Loc), va_P (gD g) vwCl (rmW g a (va_up f k (some r)) n) H1 → CH (fun q => q = a) H H1 → va_S A H0 H1 locs1 → W p l e R s m args below meth c H1 locs1 cells slots Q (F0 m (pc + 1) ls rest)) : W p l e R s m args below meth c H locs cells slots Q (F0 m pc ls (.ref r :: .int (nI k) :: .ref a :: rest)) := by
  have hcl : (nI k).toNatClampNeg = k := nI_clamp (by omega)
  obtain ⟨comp, cA, kA, g1, -, g3, g4, g5⟩ := arrayOverA_spec hK.2.2.2.2.2.2.2.2
  have e2 : cA = gM g := Option.some.inj (g5.symm.trans (hK.1.2 3 (gM g, .array .int) rfl).2)
  subst e2
  have e3 : comp = gI g := Option.some.inj ((show s.vm.findClass ("[" ++ (FieldType.int).toString) = some comp from g1).symm.trans (hK.1.2 0 (gI g, .int) rfl).2)
  subst e3
  obtain ⟨-, kC, hkC, -⟩ := (hK.1.2 0 (gI g, .int) rfl).1 0 (fun _ => .null)
  have hkC : s.vm.classes[gI g]? = some kC := hkC
  refine W.aast hexec hb (hP 0 _ rfl) (fun q h => by cases h) (fun h => by cases h) g3 g4 rfl hkC ⟨nI_pos (by omega), by show _ < (arrV _ _ _).slots.size; rw [arrV_size, hcl]; exact hk⟩ (hr 0 _ rfl) (fun q h => by cases h) hkC (va_asg _ _) rfl rfl hdg fun H1 e z oq => ?_
  refine kk H1 _ (P_one ?_) (CH.oq z oq) (hS.put z oq hA)
  rw [e]
  rw [vp_cell_q, vp_cell_q, arrV_store, hcl]
  congr 2
  funext q
  by_cases hq : q = k
  · subst hq
    simp [updV, va_up, va_rf]
  · simp [updV, va_up, hq]
theorem pt_V {k n x : Nat} {f : Nat → Option Nat} {fs : List Value} (hexec : p.tables.exec = Jvm.exec) (hb : c.code = cc) (hK : KK g s) (hP : va_P (gD g) vwCl (rvW g a f n) H) (hr : va_P (gD g) vwCl [(x, .inr (3, fs))] H) (hS : va_S A H0 H locs) (hA : A a) (hk : k < n) (hn : n < 2 ^ 31) (hdg : decode cc pc = .ok (.aastore, 1))
    (kk : ∀ (H1 : Heap) (locs1 : List Loc), va_P (gD g) vwCl (rvW g a (va_up f k (some x)) n) H1 → CH (fun q => q = a) H H1 → va_S A H0 H1 locs1 → W p l e R s m args below meth c H1 locs1 cells slots Q (F0 m (pc + 1) ls rest)) : W p l e R s m args below meth c H locs cells slots Q (F0 m pc ls (.ref x :: .int (nI k) :: .ref a :: rest)) := by
  have hcl : (nI k).toNatClampNeg = k := nI_clamp (by omega)
  obtain ⟨cellV, g1, g3, g2⟩ := va_recv hK.1 hr (ci := 3) (q0 := 0) rfl rfl
  obtain ⟨kA, comp, k1, k2, k3, -⟩ := (hK.1.2 4 (gV g, .object "LetterSealsLaw$Envelope") rfl).2
  obtain ⟨kE, hkE, -⟩ := Vm.findClass_spec k3
  obtain ⟨kC, hkC, -⟩ := Vm.findClass_spec g2
  refine W.aast hexec hb (hP 0 _ rfl) (fun q h => by cases h) (fun h => by cases h) k1 k2 rfl hkE ⟨nI_pos (by omega), by show _ < (arrV _ _ _).slots.size; rw [arrV_size, hcl]; exact hk⟩ g1 (fun q h => by rw [h] at g3; cases g3) hkC (by
      have e9 : comp = cellV.cls := Option.some.inj (k3.symm.trans g2)
      rw [e9]; exact va_asg _ _) rfl rfl hdg fun H1 e z oq => ?_
  refine kk H1 _ (P_one ?_) (CH.oq z oq) (hS.put z oq hA)
  rw [e]
  rw [vp_cell_q, vp_cell_q, arrV_store, hcl]
  congr 2
  funext q
  by_cases hq : q = k
  · subst hq
    simp [updV, va_up, va_rf]
  · simp [updV, va_up, hq]
/-- reading a row of rows, a row of envelopes -/
theorem gt_A {k n r : Nat} {f : Nat → Option Nat} (hexec : p.tables.exec = Jvm.exec) (hb : c.code = cc) (hK : KK g s) (hP : va_P (gD g) vwCl (rmW g a f n) H) (hf : f k = some r) (hk : k < n) (hn : n < 2 ^ 31) (hdg : decode cc pc = .ok (.aaload, 1))
    (kk : W p l e R s m args below meth c H locs cells slots Q (F0 m (pc + 1) ls (.ref r :: rest))) : W p l e R s m args below meth c H locs cells slots Q (F0 m pc ls (.int (nI k) :: .ref a :: rest)) := by
  have hcl : (nI k).toNatClampNeg = k := nI_clamp (by omega)
  refine W.aald (v := .ref r) (ty := .array .int) hexec hb (hP 0 _ rfl) ((hK.1.2 3 (gM g, .array .int) rfl).1 n (fun j => va_rf (f j))) rfl (fun q => by cases q) (by show ¬ (nI k < 0 ∨ (arrV _ _ _).slots.size ≤ _); rw [arrV_size]; exact vp_in_nI hk (by omega)) (by show (arrV _ _ _).slots[_]? = _; rw [hcl, arrV_read _ _ hk, hf]; rfl) rfl rfl hdg kk
theorem gt_V {k n r : Nat} {f : Nat → Option Nat} (hexec : p.tables.exec = Jvm.exec) (hb : c.code = cc) (hK : KK g s) (hP : va_P (gD g) vwCl (rvW g a f n) H) (hf : f k = some r) (hk : k < n) (hn : n < 2 ^ 31) (hdg : decode cc pc = .ok (.aaload, 1))
    (kk : W p l e R s m args below meth c H locs cells slots Q (F0 m (pc + 1) ls (.ref r :: rest))) : W p l e R s m args below meth c H locs cells slots Q (F0 m pc ls (.int (nI k) :: .ref a :: rest)) := by
  have hcl : (nI k).toNatClampNeg = k := nI_clamp (by omega)
  refine W.aald (v := .ref r) (ty := .object "LetterSealsLaw$Envelope") hexec hb (hP 0 _ rfl) ((hK.1.2 4 (gV g, .object "LetterSealsLaw$Envelope") rfl).1 n (fun j => va_rf (f j))) rfl (fun q => by cases q) (by show ¬ (nI k < 0 ∨ (arrV _ _ _).slots.size ≤ _); rw [arrV_size]; exact vp_in_nI hk (by omega)) (by show (arrV _ _ _).slots[_]? = _; rw [hcl, arrV_read _ _ hk, hf]; rfl) rfl rfl hdg kk
theorem al_I {n : Nat} {f : Nat → Int32} (hexec : p.tables.exec = Jvm.exec) (hb : c.code = cc) (hK : KK g s) (hP : va_P (gD g) vwCl (rwW g a f n) H) (hdg : decode cc pc = .ok (.arraylength, 1)) (kk : W p l e R s m args below meth c H locs cells slots Q (F0 m (pc + 1) ls (.int (nI n) :: rest))) : W p l e R s m args below meth c H locs cells slots Q (F0 m pc ls (.ref a :: rest)) :=
  va_alen (v := nI n) hexec hb hK.1 hP 0 0 rfl (ht := (rfl : (gTy g)[0]? = _)) rfl hdg kk
theorem al_A {n : Nat} {f : Nat → Option Nat} (hexec : p.tables.exec = Jvm.exec) (hb : c.code = cc) (hK : KK g s) (hP : va_P (gD g) vwCl (rmW g a f n) H) (hdg : decode cc pc = .ok (.arraylength, 1)) (kk : W p l e R s m args below meth c H locs cells slots Q (F0 m (pc + 1) ls (.int (nI n) :: rest))) : W p l e R s m args below meth c H locs cells slots Q (F0 m pc ls (.ref a :: rest)) :=
  va_alen (v := nI n) hexec hb hK.1 hP 0 3 rfl (ht := (rfl : (gTy g)[3]? = _)) rfl hdg kk
theorem al_V {n : Nat} {f : Nat → Option Nat} (hexec : p.tables.exec = Jvm.exec) (hb : c.code = cc) (hK : KK g s) (hP : va_P (gD g) vwCl (rvW g a f n) H) (hdg : decode cc pc = .ok (.arraylength, 1)) (kk : W p l e R s m args below meth c H locs cells slots Q (F0 m (pc + 1) ls (.int (nI n) :: rest))) : W p l e R s m args below meth c H locs cells slots Q (F0 m pc ls (.ref a :: rest)) :=
  va_alen (v := nI n) hexec hb hK.1 hP 0 4 rfl (ht := (rfl : (gTy g)[4]? = _)) rfl hdg kk
end SIMR
