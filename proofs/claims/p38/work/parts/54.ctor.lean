/-! CONSTRUCTORS -/
theorem ri_eq {U : State} {c1 c2 : ClassId} (h1 : va_RA U c1 .int) (h2 : va_RA U c2 .int) : c1 = c2 := by
  have a1 : U.vm.findClass ("[" ++ (FieldType.int).toString) = some c1 := h1
  have a2 : U.vm.findClass ("[" ++ (FieldType.int).toString) = some c2 := h2
  exact Option.some.inj (a1.symm.trans a2)
theorem rj_eq {U : State} {c1 c2 : ClassId} (h1 : va_RA U c1 .long) (h2 : va_RA U c2 .long) : c1 = c2 := by
  have a1 : U.vm.findClass ("[" ++ (FieldType.long).toString) = some c1 := h1
  have a2 : U.vm.findClass ("[" ++ (FieldType.long).toString) = some c2 := h2
  exact Option.some.inj (a1.symm.trans a2)
theorem rq_eq {U : State} {c1 c2 : ClassId} {C : String} (h1 : va_RA U c1 (.object C)) (h2 : va_RA U c2 (.object C)) : c1 = c2 := by
  obtain ⟨-, -, -, -, -, a1⟩ := h1
  obtain ⟨-, -, -, -, -, a2⟩ := h2
  exact Option.some.inj (a1.symm.trans a2)
theorem D_one {q : Nat} {e : va_E} {A : Nat → Prop} (h : A q) : va_D A [(q, e)] := by
  refine ⟨fun i j a b hi hj _ => ?_, fun k a hk => ?_⟩
  · have h1 := (List.getElem?_eq_some_iff.mp hi).1
    have h2 := (List.getElem?_eq_some_iff.mp hj).1
    simp at h1 h2
    omega
  · match k, hk with
    | 0, hk => cases hk; exact h
    | k + 1, hk => simp at hk
section NEWI
variable {p : Program} {l : Launch} {e : Env} {R : Room} {s : State} {m : MethodId} {args : Array Value} {below : List Frame} {meth : Method} {c : Code} {H H0 : Heap} {locs : List Loc} {cells slots : Nat} {Q : State → Prop}
variable {pc : Nat} {ls : Array Slot} {rest : List Value} {cc : ByteArray} {A : Nat → Prop}
theorem new_I {g : gT} {ws : va_W} (hexec : p.tables.exec = Jvm.exec) (hb : c.code = cc) (harr : (Cond.arrayClass .int).before args s = true) (hK : KK g s) (hP : va_P (gD g) vwCl ws H) (hD : va_D A ws) (hS : va_S A H0 H locs) (hA : ∀ q, H0.size ≤ q → A q) {n : Nat} (hn : n < 100000) (hcells : cells + 1 ≤ R.cells) (hslots : slots + n ≤ R.slots) (hdg : decode cc pc = .ok (.newarray .int, 2))
    (kk : ∀ (q : Nat) (H1 : Heap), va_P (gD g) vwCl (ws ++ [(q, .inl (gI g, n, .inl (fun _ => 0)))]) H1 → va_D A (ws ++ [(q, .inl (gI g, n, .inl (fun _ => 0)))]) → va_S A H0 H1 locs → W p l e R s m args below meth c H1 locs (cells + 1) (slots + n) Q (F0 m (pc + 2) ls (.ref q :: rest))) : W p l e R s m args below meth c H locs cells slots Q (F0 m pc ls (.int (nI n) :: rest)) := by
  refine va_newa (atype := .int) (ty := .int) (a0 := (n, .inl (fun _ => 0))) (N' := n) hexec hb harr rfl hK.1 hP hD hS hA (fun cA => rfl) (nI_pos (by omega)) (nI_clamp (by omega)) (by show n * 4 ≤ 536870912; omega) hcells hslots hdg ?_
  intro q cA H1 hK1 hP1 hD1 hS1
  have e1 : cA = gI g := ri_eq (hK1.2 5 (cA, .int) rfl).2 (hK.1.2 0 (gI g, .int) rfl).2
  subst e1
  exact kk q H1 hP1 hD1 hS1
end NEWI

set_option maxHeartbeats 4000000 in
set_option maxRecDepth 100000 in
/-- LetterSeals$Letter() -/
theorem c_X1_init (l : Launch) (g : gT) (h sz : Nat) : Met l yX1_init wsX1_init { frames := 1, cells := 2, slots := 80, locals := 12 } (va_Pc [.ref h] (fun U => U.heap.size = sz ∧ KK g U ∧ va_P (gD g) vwCl [(h, .inr (1, [.null, .null, .int 0]))] U.heap)) (va_Qv (fun _ : Nat → Nat => True) (fun u t => va_P (gD g) vwCl (ltW g h (u 0) (u 1) (fun _ => 0) (fun _ => 0) 0) t.heap ∧ va_D (va_A [(h, .inr (1, [.null, .null, .int 0]))] sz) (ltW g h (u 0) (u 1) (fun _ => 0) (fun _ => 0) 0)) (va_A [(h, .inr (1, [.null, .null, .int 0]))] sz)) 2 80 (va_A [(h, .inr (1, [.null, .null, .int 0]))] sz) := by
  refine Met.ofW (cc := cX1_init) (maxL := 1) (ret := none) (by decide) rfl ?_
  intro p e s m args below meth c s₁ B hml hv
  obtain ⟨rfl, hsz, hK, hP⟩ := hv
  have hx := B.exec
  have hb := B.bytes
  have hr := B.returns
  have hlocks := B.notSynchronized
  have hin : meth.name = "<init>" := (name_of_methodNamed B.named B.method).1
  have hts := atoms_spec (ws := wsX1_init) B.pre
  have hown : s.vm.findClass RX1 = some m.cls := findClass_of_methodNamed B.named
  subst hsz
  have hD : va_D (va_A [(h, .inr (1, [.null, .null, .int 0]))] s.heap.size) [(h, .inr (1, [.null, .null, .int 0]))] := D_one (Or.inl ⟨0, _, rfl⟩)
  generalize hAe : va_A [(h, .inr (1, [.null, .null, .int 0]))] s.heap.size = A at hD ⊢
  have hA : ∀ q : Nat, s.heap.size ≤ q → A q := fun q h => by rw [← hAe]; exact Or.inr h
  have hS : va_S A s.heap s.heap [] := va_S.rf
  have hl := lv_entry ([.ref h]) (n := 1) (Nat.le_of_ble_eq_true rfl)
  rw [lg_entry_eq]
  generalize (lg_sl ([.ref h]) ++ List.replicate (1 - (lg_sl ([.ref h])).length) Slot.unset).toArray = ls at hl ⊢
  have hl : lv_has ls 1 [(0, .ref h)] := hl
  have iX1 : ∀ w ∈ u_ws RX1 TX1 3, w ∈ wsX1_init := by decide +kernel
  have f9 := hts (.fieldLink RX1 9 "LetterSeals$Letter" "signs" "[I") (by decide +kernel)
  have f15 := hts (.fieldLink RX1 15 "LetterSeals$Letter" "windowSums" "[I") (by decide +kernel)
  refine lv_aload_n hx hb dX1_init_0 rfl (lv_at hl 0 rfl) ?_
  refine W.objInit hx hb hown (hts (.methodLink RX1 3 objectInit) (by decide +kernel)) (hts (.instanceMethod objectInit) (by decide +kernel)) (hts _ (List.mem_cons_of_mem _ ((List.mem_of_getElem? (i := 2) rfl)))) rfl (by rw [hml]; exact hl.1) rfl dX1_init_1 (Nat.le_of_ble_eq_true rfl) (Nat.le_of_ble_eq_true rfl) ?_
  refine W.eq (g2 := F0 m 4 ls []) rfl ?_
  refine lv_aload_n hx hb dX1_init_4 rfl (lv_at hl 0 rfl) ?_
  refine lv_bipush (v := nI 40) hx hb dX1_init_5 (by decide +kernel) ?_
  refine new_I (n := 40) hx hb (hts (.arrayClass .int) (by decide +kernel)) hK hP hD hS hA (by decide) (Nat.le_of_ble_eq_true rfl) (Nat.le_of_ble_eq_true rfl) dX1_init_7 (fun X0 H hP hD hS => ?_)
  have hP : va_P (gD g) vwCl [(h, .inr (1, [.null, .null, .int 0])), (X0, .inl (gI g, 40, .inl (fun _ => 0)))] H := hP
  have hD : va_D A [(h, .inr (1, [.null, .null, .int 0])), (X0, .inl (gI g, 40, .inl (fun _ => 0)))] := hD
  refine va_putF (D := gD g) (ci := 1) (v := .ref X0) (ty := .array .int) (C := RX1) (T := TX1) (N := 3) hx hb hts iX1 tyX1 tyX1_ok nmX1 hown hK.1 hP hD hS 0 rfl rfl 0 (by decide) f9 (fun _ h9 => h9) rfl hin rfl (by decide +kernel) rfl rfl (Nat.le_of_ble_eq_true rfl) dX1_init_9 (fun H locs hP hD hS => ?_)
  have hP : va_P (gD g) vwCl [(h, .inr (1, [.ref X0, .null, .int 0])), (X0, .inl (gI g, 40, .inl (fun _ => 0)))] H := hP
  have hD : va_D A [(h, .inr (1, [.ref X0, .null, .int 0])), (X0, .inl (gI g, 40, .inl (fun _ => 0)))] := hD
  refine lv_aload_n hx hb dX1_init_12 rfl (lv_at hl 0 rfl) ?_
  refine lv_bipush (v := nI 40) hx hb dX1_init_13 (by decide +kernel) ?_
  refine new_I (n := 40) hx hb (hts (.arrayClass .int) (by decide +kernel)) hK hP hD hS hA (by decide) (Nat.le_of_ble_eq_true rfl) (Nat.le_of_ble_eq_true rfl) dX1_init_15 (fun X1 H hP hD hS => ?_)
  have hP : va_P (gD g) vwCl [(h, .inr (1, [.ref X0, .null, .int 0])), (X0, .inl (gI g, 40, .inl (fun _ => 0))), (X1, .inl (gI g, 40, .inl (fun _ => 0)))] H := hP
  have hD : va_D A [(h, .inr (1, [.ref X0, .null, .int 0])), (X0, .inl (gI g, 40, .inl (fun _ => 0))), (X1, .inl (gI g, 40, .inl (fun _ => 0)))] := hD
  refine va_putF (D := gD g) (ci := 1) (v := .ref X1) (ty := .array .int) (C := RX1) (T := TX1) (N := 3) hx hb hts iX1 tyX1 tyX1_ok nmX1 hown hK.1 hP hD hS 0 rfl rfl 1 (by decide) f15 (fun _ h9 => h9) rfl hin rfl (by decide +kernel) rfl rfl (Nat.le_of_ble_eq_true rfl) dX1_init_17 (fun H locs hP hD hS => ?_)
  have hP : va_P (gD g) vwCl [(h, .inr (1, [.ref X0, .ref X1, .int 0])), (X0, .inl (gI g, 40, .inl (fun _ => 0))), (X1, .inl (gI g, 40, .inl (fun _ => 0)))] H := hP
  have hD : va_D A [(h, .inr (1, [.ref X0, .ref X1, .int 0])), (X0, .inl (gI g, 40, .inl (fun _ => 0))), (X1, .inl (gI g, 40, .inl (fun _ => 0)))] := hD
  exact W.vret hx hb hr (fun t ht hW => ⟨⟨(fun j => match j with | 0 => X0 | _ => X1), rfl, trivial, by rw [ht]; exact hP, hD⟩, hS.F ht⟩) hS.2.2 dX1_init_20

set_option maxHeartbeats 4000000 in
set_option maxRecDepth 100000 in
/-- LetterSeals$Envelope() -/
theorem c_X0_init (l : Launch) (g : gT) (h sz : Nat) : Met l yX0_init wsX0_init { frames := 1, cells := 1, slots := 8, locals := 12 } (va_Pc [.ref h] (fun U => U.heap.size = sz ∧ KK g U ∧ va_P (gD g) vwCl [(h, .inr (0, [.null, .int 0, .int 0, .int 0, .int 0, .int 0, .int 0, .int 0]))] U.heap)) (va_Qv (fun _ : Nat → Nat => True) (fun u t => va_P (gD g) vwCl (evW g h (u 0) 0 0 0 0 0 0 0 (fun _ => 0)) t.heap ∧ va_D (va_A [(h, .inr (0, [.null, .int 0, .int 0, .int 0, .int 0, .int 0, .int 0, .int 0]))] sz) (evW g h (u 0) 0 0 0 0 0 0 0 (fun _ => 0))) (va_A [(h, .inr (0, [.null, .int 0, .int 0, .int 0, .int 0, .int 0, .int 0, .int 0]))] sz)) 1 8 (va_A [(h, .inr (0, [.null, .int 0, .int 0, .int 0, .int 0, .int 0, .int 0, .int 0]))] sz) := by
  refine Met.ofW (cc := cX0_init) (maxL := 1) (ret := none) (by decide) rfl ?_
  intro p e s m args below meth c s₁ B hml hv
  obtain ⟨rfl, hsz, hK, hP⟩ := hv
  have hx := B.exec
  have hb := B.bytes
  have hr := B.returns
  have hlocks := B.notSynchronized
  have hin : meth.name = "<init>" := (name_of_methodNamed B.named B.method).1
  have hts := atoms_spec (ws := wsX0_init) B.pre
  have hown : s.vm.findClass RX0 = some m.cls := findClass_of_methodNamed B.named
  subst hsz
  have hD : va_D (va_A [(h, .inr (0, [.null, .int 0, .int 0, .int 0, .int 0, .int 0, .int 0, .int 0]))] s.heap.size) [(h, .inr (0, [.null, .int 0, .int 0, .int 0, .int 0, .int 0, .int 0, .int 0]))] := D_one (Or.inl ⟨0, _, rfl⟩)
  generalize hAe : va_A [(h, .inr (0, [.null, .int 0, .int 0, .int 0, .int 0, .int 0, .int 0, .int 0]))] s.heap.size = A at hD ⊢
  have hA : ∀ q : Nat, s.heap.size ≤ q → A q := fun q h => by rw [← hAe]; exact Or.inr h
  have hS : va_S A s.heap s.heap [] := va_S.rf
  have hl := lv_entry ([.ref h]) (n := 1) (Nat.le_of_ble_eq_true rfl)
  rw [lg_entry_eq]
  generalize (lg_sl ([.ref h]) ++ List.replicate (1 - (lg_sl ([.ref h])).length) Slot.unset).toArray = ls at hl ⊢
  have hl : lv_has ls 1 [(0, .ref h)] := hl
  have iX0 : ∀ w ∈ u_ws RX0 TX0 8, w ∈ wsX0_init := by decide +kernel
  have f9 := hts (.fieldLink RX0 9 "LetterSeals$Envelope" "blockSums" "[I") (by decide +kernel)
  refine lv_aload_n hx hb dX0_init_0 rfl (lv_at hl 0 rfl) ?_
  refine W.objInit hx hb hown (hts (.methodLink RX0 3 objectInit) (by decide +kernel)) (hts (.instanceMethod objectInit) (by decide +kernel)) (hts _ (List.mem_cons_of_mem _ ((List.mem_of_getElem? (i := 2) rfl)))) rfl (by rw [hml]; exact hl.1) rfl dX0_init_1 (Nat.le_of_ble_eq_true rfl) (Nat.le_of_ble_eq_true rfl) ?_
  refine W.eq (g2 := F0 m 4 ls []) rfl ?_
  refine lv_aload_n hx hb dX0_init_4 rfl (lv_at hl 0 rfl) ?_
  refine lv_bipush (v := nI 8) hx hb dX0_init_5 (by decide +kernel) ?_
  refine new_I (n := 8) hx hb (hts (.arrayClass .int) (by decide +kernel)) hK hP hD hS hA (by decide) (Nat.le_of_ble_eq_true rfl) (Nat.le_of_ble_eq_true rfl) dX0_init_7 (fun X0 H hP hD hS => ?_)
  have hP : va_P (gD g) vwCl [(h, .inr (0, [.null, .int 0, .int 0, .int 0, .int 0, .int 0, .int 0, .int 0])), (X0, .inl (gI g, 8, .inl (fun _ => 0)))] H := hP
  have hD : va_D A [(h, .inr (0, [.null, .int 0, .int 0, .int 0, .int 0, .int 0, .int 0, .int 0])), (X0, .inl (gI g, 8, .inl (fun _ => 0)))] := hD
  refine va_putF (D := gD g) (ci := 0) (v := .ref X0) (ty := .array .int) (C := RX0) (T := TX0) (N := 8) hx hb hts iX0 tyX0 tyX0_ok nmX0 hown hK.1 hP hD hS 0 rfl rfl 0 (by decide) f9 (fun _ h9 => h9) rfl hin rfl (by decide +kernel) rfl rfl (Nat.le_of_ble_eq_true rfl) dX0_init_9 (fun H locs hP hD hS => ?_)
  have hP : va_P (gD g) vwCl [(h, .inr (0, [.ref X0, .int 0, .int 0, .int 0, .int 0, .int 0, .int 0, .int 0])), (X0, .inl (gI g, 8, .inl (fun _ => 0)))] H := hP
  have hD : va_D A [(h, .inr (0, [.ref X0, .int 0, .int 0, .int 0, .int 0, .int 0, .int 0, .int 0])), (X0, .inl (gI g, 8, .inl (fun _ => 0)))] := hD
  exact W.vret hx hb hr (fun t ht hW => ⟨⟨(fun j => match j with | _ => X0), rfl, trivial, by rw [ht]; exact hP, hD⟩, hS.F ht⟩) hS.2.2 dX0_init_12

