/-! THE LAW'S build: both desks, and what is done at first -/
def bPc (g : gT) (av : List Value) (sz B0 b L : Nat) (xs : Nat → Int32) (PH : Heap → Prop) : Array Value → State → Prop := va_Pc av (fun U => U.heap.size = sz ∧ KK g U ∧ ZB B0 U U.heap ∧ va_X b L xs U U.heap ∧ PH U.heap)
theorem bPc_blind {g : gT} {av : List Value} {sz B0 b L : Nat} {xs : Nat → Int32} {PH : Heap → Prop} : FrameBlind (bPc g av sz B0 b L xs PH) := fun a U f mk h => ⟨h.1, h.2.1, h.2.2.1.calling, ZB.moved (u := U) (U := U.calling f mk a) (Vm.Alike.refl U.vm) h.2.2.2.1, h.2.2.2.2.1.moved (u := U) (U := U.calling f mk a) (Vm.Alike.refl U.vm), h.2.2.2.2.2⟩
theorem X_lt {b L : Nat} {xs : Nat → Int32} {U : State} {H : Heap} (h : va_X b L xs U H) : b < H.size := by
  obtain ⟨scr, h1, -⟩ := h
  exact (Array.getElem?_eq_some_iff.mp h1).1
section BLAY
variable {p : Program} {l : Launch} {e : Env} {R : Room} {s : State} {m : MethodId} {args : Array Value} {below : List Frame} {meth : Method} {c : Code} {H H0 : Heap} {locs : List Loc} {cells slots : Nat} {Q : State → Prop}
variable {pc : Nat} {ls : Array Slot} {rest st0 : List Value} {cc : ByteArray} {A0 A1 : Nat → Prop} {g : gT} {a : Array Value} {sz mc ms B0 b L k : Nat} {xs : Nat → Int32}
variable {nL index : Nat} {Ts : List Cond} {own : String}
/-- a cell of the script is read -/
theorem ce_S (S : CallFix p m c cc nL s args Ts own) (hk : k < 1000) (hL : L < 1000) (cw : CallB R s args own index yL_cell cL_cell 2 (some .int) wsL_cell { frames := 0, cells := 0, slots := 0, locals := 0 } 0 0 2 ∧ (Cond.static yL_cell).before args s = true) (hK : KK g s) (hX : va_X b L xs s H) (hsize : ls.size = nL) (hst : st0 = .int (nI k) :: .ref b :: rest) (hW : (rest.map fun v => v.category).sum ≤ 8) (hdg : decode cc pc = .ok (.invokestatic index, 3)) (hf : cells + 0 ≤ R.cells ∧ slots + 0 ≤ R.slots)
    (kk : W p l e R s m args below meth c H locs cells slots Q (F0 m (pc + 3) ls (.int (ceV L xs k) :: rest))) : W p l e R s m args below meth c H locs cells slots Q (F0 m pc ls st0) :=
  p_callR (va_runS S (c_L_cell l g b L xs k hk hL) cw ⟨xPb_blind, fun U hU hWm => ⟨rfl, hK.warm hWm, by rw [hU]; exact hX.moved hWm.alike⟩⟩ rfl rfl hsize (by rw [hst]; rfl) (lv_room hW) hdg hf) kk
end BLAY

set_option maxHeartbeats 4000000 in
set_option maxRecDepth 100000 in
theorem build_25 {p : Program} {e : Env} {s : State} {m : MethodId} {args : Array Value} {below : List Frame} {meth : Method} {c : Code} {Q : State → Prop} (l : Launch) (hlt : l.stackTraces = false) (g : gT) {B0 b L : Nat} {xs : Nat → Int32} {AD : Nat → Nat} (hx : p.tables.exec = Jvm.exec) (hb : c.code = cL_build) (hml : c.maxLocals = 6) (hts : ∀ w ∈ wsL_build, w.before args s = true) (hown : s.vm.findClass RL = some m.cls) (hK : KK g s) (hJD : JD B0 s.heap.size AD) (hbB : b < B0) (hL : L < 1000)
    (hret : ∀ (pc : Nat) (ls : Array Slot) (H : Heap) (locs : List Loc) (so : Nat) (LL : Nat → ltT) (EE : Nat → evT) (LN : Nat → Nat) (TT : Nat → (Nat → Int32) × Nat) (lc ec la ea : Nat) (ra xa ta : Nat → Nat), JW g s.heap.size AD so LL EE LN TT lc ec la ea ra xa ta H → va_S (fA (bA B0) s.heap.size) s.heap H locs → decode cL_build pc = .ok (.areturn, 1) → W p l e { frames := 10, cells := 290, slots := 8700, locals := 182 } s m args below meth c H locs 290 8700 Q (F0 m pc ls [.ref so])) {so n : Nat} (hn : n < 40) : ∀ (k1 i : Nat) (LL : Nat → ltT) (EE : Nat → evT) (LN : Nat → Nat) (TT : Nat → (Nat → Int32) × Nat) (lc ec la ea : Nat) (ra xa ta : Nat → Nat) (H : Heap) (locs : List Loc) (ls : Array Slot), n - i < k1 → i ≤ n → JW g s.heap.size AD so LL EE LN TT lc ec la ea ra xa ta H → ZB B0 s H → va_X b L xs s H → va_S (fA (bA B0) s.heap.size) s.heap H locs → lv_has ls 6 [(4, .int (nI (i))), (3, .int (nI (n))), (2, .ref (so)), (1, .ref (b)), (0, .ref (AD 0))] → W p l e { frames := 10, cells := 290, slots := 8700, locals := 182 } s m args below meth c H locs (3 + 7 * i) (2 + 220 * i) Q (F0 m 25 ls []) := by
  have S : CallFix p m c cL_build 6 s args wsL_build RL := ⟨hx, hb, hml, hown, hts⟩

  intro k1
  induction k1 with
  | zero => intro i LL EE LN TT lc ec la ea ra xa ta H locs ls hFu; exact absurd hFu (Nat.not_lt_zero _)
  | succ k1 ih =>
    intro i LL EE LN TT lc ec la ea ra xa ta H locs ls hFu hLe hJ hZ hX hS hl
    have hBH := hS.1
    refine lv_iload hx hb dL_build_25 (lv_at hl 0 rfl) ?_
    refine lv_iload_n hx hb dL_build_27 rfl (lv_at hl 1 rfl) ?_
    refine br_ge (a := i) (b := n) (tgt := 116) hx hb (by omega) (by omega) dL_build_28 (by decide) (fun c28 => ?_) (fun c28 => ?_)
    · refine lv_aload_n hx hb dL_build_116 rfl (lv_at hl 2 rfl) ?_
      exact W.widen (by show _ ≤ 290; omega) (by show _ ≤ 8700; omega) (hret _ _ _ _ _ _ _ _ _ _ _ _ _ _ _ _ hJ hS dL_build_117)
    · refine lv_aload_n hx hb dL_build_31 rfl (lv_at hl 3 rfl) ?_
      refine lv_iconst (v := nI (1)) hx hb dL_build_32 (by decide +kernel) ?_
      refine lv_iload hx hb dL_build_33 (lv_at hl 0 rfl) ?_
      refine lv_bipush (v := nI (15)) hx hb dL_build_35 (by decide +kernel) ?_
      refine lv_irem hx hb dL_build_37 (by decide +kernel) ?_
      refine lv_toI (z := nI (i % 15)) (rm_nat (by omega) (by omega)) ?_
      refine lv_iadd hx hb dL_build_38 ?_
      refine lv_toI (z := nI (1 + i % 15)) (nI_add _ _) ?_
      refine ce_S (g := g) (k := 1 + i % 15) (rest := []) S (by omega) hL (va_cwS 2 hts gL_build_L_cell rfl rfl rfl (by decide +kernel) ⟨Nat.le_of_ble_eq_true rfl, Nat.le_of_ble_eq_true rfl⟩) hK hX hl.1 rfl (Nat.le_of_ble_eq_true rfl) dL_build_39 ⟨by show _ ≤ 290; omega, by show _ ≤ 8700; omega⟩ ?_
      refine lv_iload hx hb dL_build_42 (lv_at hl 0 rfl) ?_
      refine lv_bipush (v := 15) hx hb dL_build_44 (by decide +kernel) ?_
      refine lv_idiv hx hb dL_build_46 (by decide +kernel) ?_
      refine lv_iconst (v := 3) hx hb dL_build_47 (by decide +kernel) ?_
      refine lv_imul hx hb dL_build_48 ?_
      refine lv_ishr hx hb dL_build_49 ?_
      refine lv_bipush (v := 37) hx hb dL_build_50 (by decide +kernel) ?_
      refine lv_iload hx hb dL_build_52 (lv_at hl 0 rfl) ?_
      refine lv_imul hx hb dL_build_54 ?_
      refine lv_iadd hx hb dL_build_55 ?_
      obtain ⟨y, ey⟩ : ∃ y : Int32, y = ((ceV L xs (1 + i % 15)) >>> ((((nI (i)) / (15)) * (3)) &&& 31)) + ((37) * (nI (i))) := ⟨_, rfl⟩
      refine lv_toI (z := y) (ey.symm) ?_
      refine lv_istore (lv' := [(5, .int (y)), (4, .int (nI (i))), (3, .int (nI (n))), (2, .ref (so)), (1, .ref (b)), (0, .ref (AD 0))]) hx hb dL_build_56 hl (by decide) rfl (fun ls hl => ?_)
      refine lv_aload_n hx hb dL_build_58 rfl (lv_at hl 5 rfl) ?_
      refine lv_aload_n hx hb dL_build_59 rfl (lv_at hl 3 rfl) ?_
      refine lv_iload hx hb dL_build_60 (lv_at hl 1 rfl) ?_
      refine lv_iconst (v := nI (5)) hx hb dL_build_62 (by decide +kernel) ?_
      refine lv_irem hx hb dL_build_63 (by decide +kernel) ?_
      refine lv_toI (z := nI (i % 5)) (rm_nat (by omega) (by omega)) ?_
      refine lv_iconst (v := nI (3)) hx hb dL_build_64 (by decide +kernel) ?_
      refine br_ge (a := i % 5) (b := 3) (tgt := 100) hx hb (by omega) (by omega) dL_build_65 (by decide) (fun c65 => ?_) (fun c65 => ?_)
      · refine lv_iload hx hb dL_build_100 (lv_at hl 0 rfl) ?_
        refine a_SW (As := [.ref (AD 0), .ref (so), .int (y)]) (rest := []) S (c_L_act l hlt g H.size (y) hJD) (vx_cwSW 3 hts gL_build_L_act rfl rfl rfl (by decide +kernel) ⟨Nat.le_of_ble_eq_true rfl, Nat.le_of_ble_eq_true rfl⟩) hK hZ ⟨hJ, hBH⟩ hS (fun q hq => Or.inl hq) (fun q hq => Or.inr hq) rfl hl.1 rfl (Nat.le_of_ble_eq_true rfl) dL_build_102 ⟨by show _ ≤ 290; omega, by show _ ≤ 8700; omega⟩ (fun v H locs hpost hC hS => ?_)
        obtain ⟨rfl, LL2, EE2, LN2, TT2, lc2, ec2, la2, ea2, ra2, xa2, ta2, hJ, h1, h2⟩ := hpost
        have hZ := hZ.kept hC (fun q z => z)
        have hX := hX.kept (hC.2 b (X_lt hX) (fun z => absurd hbB (Nat.not_lt.mpr z)))
        refine lv_if_ne (tgt := 110) hx hb dL_build_105 (by decide) (fun c105 => ?_) (fun c105 => ?_)
        · refine lv_iinc (v := nI (i + 1)) (lv' := [(4, .int (nI (i + 1))), (5, .int (y)), (3, .int (nI (n))), (2, .ref (so)), (1, .ref (b)), (0, .ref (AD 0))]) hx hb dL_build_110 hl (k := 1) rfl (nI_1 _) (by decide) rfl (fun ls hl => ?_)
          refine lv_goto (tgt := 25) hx hb dL_build_113 (by decide) ?_
          exact W.widen (by omega) (by omega) (ih (i + 1) _ _ _ _ _ _ _ _ _ _ _ H _ _ (by omega) (by omega) hJ hZ hX hS (lv_sub hl [0, 2, 3, 4, 5] rfl))
        · exact absurd c105 (by decide +kernel)
      · refine lv_iload hx hb dL_build_68 (lv_at hl 0 rfl) ?_
        refine lv_iload hx hb dL_build_70 (lv_at hl 0 rfl) ?_
        refine lv_bipush (v := nI (18)) hx hb dL_build_72 (by decide +kernel) ?_
        refine p_S (As := [.int (y), .int (nI (18))]) (rest := [.int (y), .ref (so), .ref (AD 0)]) S (c_L_below l g (y) 18 (by omega) (by omega)) (va_cwS 2 hts gL_build_L_below rfl rfl rfl (by decide +kernel) ⟨Nat.le_of_ble_eq_true rfl, Nat.le_of_ble_eq_true rfl⟩) hK (trivial) rfl hl.1 rfl (Nat.le_of_ble_eq_true rfl) dL_build_74 ⟨by show _ ≤ 290; omega, by show _ ≤ 8700; omega⟩ ?_
        refine lv_isub hx hb dL_build_77 ?_
        refine lv_iload hx hb dL_build_78 (lv_at hl 1 rfl) ?_
        refine lv_iconst (v := nI (5)) hx hb dL_build_80 (by decide +kernel) ?_
        refine lv_irem hx hb dL_build_81 (by decide +kernel) ?_
        refine lv_toI (z := nI (i % 5)) (rm_nat (by omega) (by omega)) ?_
        refine br_ne0 (a := i % 5) (tgt := 90) hx hb (by omega) dL_build_82 (by decide) (fun c82 => ?_) (fun c82 => ?_)
        · refine lv_iconst (v := nI (2)) hx hb dL_build_90 (by decide +kernel) ?_
          refine lv_iload hx hb dL_build_91 (lv_at hl 1 rfl) ?_
          refine lv_iconst (v := nI (3)) hx hb dL_build_93 (by decide +kernel) ?_
          refine lv_irem hx hb dL_build_94 (by decide +kernel) ?_
          refine lv_toI (z := nI (i % 3)) (rm_nat (by omega) (by omega)) ?_
          refine lv_iadd hx hb dL_build_95 ?_
          refine lv_toI (z := nI (2 + i % 3)) (nI_add _ _) ?_
          refine lv_iadd hx hb dL_build_96 ?_
          refine lv_goto (tgt := 102) hx hb dL_build_97 (by decide) ?_
          refine a_SW (As := [.ref (AD 0), .ref (so), .int (((y) - (rm ((y) &&& 2147483647) (nI (18)))) + (nI (2 + i % 3)))]) (rest := []) S (c_L_act l hlt g H.size (((y) - (rm ((y) &&& 2147483647) (nI (18)))) + (nI (2 + i % 3))) hJD) (vx_cwSW 3 hts gL_build_L_act rfl rfl rfl (by decide +kernel) ⟨Nat.le_of_ble_eq_true rfl, Nat.le_of_ble_eq_true rfl⟩) hK hZ ⟨hJ, hBH⟩ hS (fun q hq => Or.inl hq) (fun q hq => Or.inr hq) rfl hl.1 rfl (Nat.le_of_ble_eq_true rfl) dL_build_102 ⟨by show _ ≤ 290; omega, by show _ ≤ 8700; omega⟩ (fun v H locs hpost hC hS => ?_)
          obtain ⟨rfl, LL2, EE2, LN2, TT2, lc2, ec2, la2, ea2, ra2, xa2, ta2, hJ, h1, h2⟩ := hpost
          have hZ := hZ.kept hC (fun q z => z)
          have hX := hX.kept (hC.2 b (X_lt hX) (fun z => absurd hbB (Nat.not_lt.mpr z)))
          refine lv_if_ne (tgt := 110) hx hb dL_build_105 (by decide) (fun c105 => ?_) (fun c105 => ?_)
          · refine lv_iinc (v := nI (i + 1)) (lv' := [(4, .int (nI (i + 1))), (5, .int (y)), (3, .int (nI (n))), (2, .ref (so)), (1, .ref (b)), (0, .ref (AD 0))]) hx hb dL_build_110 hl (k := 1) rfl (nI_1 _) (by decide) rfl (fun ls hl => ?_)
            refine lv_goto (tgt := 25) hx hb dL_build_113 (by decide) ?_
            exact W.widen (by omega) (by omega) (ih (i + 1) _ _ _ _ _ _ _ _ _ _ _ H _ _ (by omega) (by omega) hJ hZ hX hS (lv_sub hl [0, 2, 3, 4, 5] rfl))
          · exact absurd c105 (by decide +kernel)
        · refine lv_bipush (v := 17) hx hb dL_build_85 (by decide +kernel) ?_
          refine lv_goto (tgt := 96) hx hb dL_build_87 (by decide) ?_
          refine lv_iadd hx hb dL_build_96 ?_
          refine lv_goto (tgt := 102) hx hb dL_build_97 (by decide) ?_
          refine a_SW (As := [.ref (AD 0), .ref (so), .int (((y) - (rm ((y) &&& 2147483647) (nI (18)))) + (17))]) (rest := []) S (c_L_act l hlt g H.size (((y) - (rm ((y) &&& 2147483647) (nI (18)))) + (17)) hJD) (vx_cwSW 3 hts gL_build_L_act rfl rfl rfl (by decide +kernel) ⟨Nat.le_of_ble_eq_true rfl, Nat.le_of_ble_eq_true rfl⟩) hK hZ ⟨hJ, hBH⟩ hS (fun q hq => Or.inl hq) (fun q hq => Or.inr hq) rfl hl.1 rfl (Nat.le_of_ble_eq_true rfl) dL_build_102 ⟨by show _ ≤ 290; omega, by show _ ≤ 8700; omega⟩ (fun v H locs hpost hC hS => ?_)
          obtain ⟨rfl, LL2, EE2, LN2, TT2, lc2, ec2, la2, ea2, ra2, xa2, ta2, hJ, h1, h2⟩ := hpost
          have hZ := hZ.kept hC (fun q z => z)
          have hX := hX.kept (hC.2 b (X_lt hX) (fun z => absurd hbB (Nat.not_lt.mpr z)))
          refine lv_if_ne (tgt := 110) hx hb dL_build_105 (by decide) (fun c105 => ?_) (fun c105 => ?_)
          · refine lv_iinc (v := nI (i + 1)) (lv' := [(4, .int (nI (i + 1))), (5, .int (y)), (3, .int (nI (n))), (2, .ref (so)), (1, .ref (b)), (0, .ref (AD 0))]) hx hb dL_build_110 hl (k := 1) rfl (nI_1 _) (by decide) rfl (fun ls hl => ?_)
            refine lv_goto (tgt := 25) hx hb dL_build_113 (by decide) ?_
            exact W.widen (by omega) (by omega) (ih (i + 1) _ _ _ _ _ _ _ _ _ _ _ H _ _ (by omega) (by omega) hJ hZ hX hS (lv_sub hl [0, 2, 3, 4, 5] rfl))
          · exact absurd c105 (by decide +kernel)

set_option maxHeartbeats 4000000 in
set_option maxRecDepth 100000 in
/-- build(desk, script) -/
theorem c_L_build (l : Launch) (hlt : l.stackTraces = false) (g : gT) (sz : Nat) {B0 b L : Nat} {xs : Nat → Int32} {AD : Nat → Nat} (hJD : JD B0 sz AD) (hbB : b < B0) (hL : L < 1000) : Met l yL_build wsL_build { frames := 10, cells := 290, slots := 8700, locals := 182 } (bPc g [.ref (AD 0), .ref b] sz B0 b L xs (fun H => va_P (gD g) vwCl (wsD g AD L0 E0 0 0) H)) (nQ (fun v H => ∃ (so : Nat) (LL : Nat → ltT) (EE : Nat → evT) (LN : Nat → Nat) (TT : Nat → (Nat → Int32) × Nat) (lc ec la ea : Nat) (ra xa ta : Nat → Nat), v = some (.ref so) ∧ JW g sz AD so LL EE LN TT lc ec la ea ra xa ta H) (fA (bA B0) sz)) 290 8700 (fA (bA B0) sz) := by
  refine Met.ofW (cc := cL_build) (maxL := 6) (ret := some (.object "LetterSealsLaw$Sim")) (by decide) rfl ?_
  intro p e s m args below meth c s₁ B hml hv
  obtain ⟨rfl, hsz, hK, hZ0, hX0, hDk0⟩ := hv
  subst hsz
  have hl := lv_entry [.ref (AD 0), .ref b] (n := 6) (Nat.le_of_ble_eq_true rfl)
  rw [lg_entry_eq]
  have hx := B.exec
  have hb := B.bytes
  have hts := atoms_spec (ws := wsL_build) B.pre
  have hown : s.vm.findClass RL = some m.cls := findClass_of_methodNamed B.named
  generalize (lg_sl ([.ref (AD 0), .ref b]) ++ List.replicate (6 - (lg_sl ([.ref (AD 0), .ref b])).length) Slot.unset).toArray = ls at hl ⊢
  have hl : lv_has ls 6 [(0, .ref (AD 0)), (1, .ref b)] := hl
  have S : CallFix p m c cL_build 6 s _ wsL_build RL := ⟨hx, hb, hml, hown, hts⟩
  have iX4 : ∀ w ∈ u_ws RX4 TX4 2, w ∈ wsL_build := by decide +kernel
  have hS : va_S (fA (bA B0) s.heap.size) s.heap s.heap [] := va_S.rf
  refine nw_O (ci := 4) (fs := [.null, .null]) (C := RX4) (T := TX4) (N := 2) hx hb hts iX4 tyX4 tyX4_ok hown (hts (.classLink RL 10 RX4) (by decide +kernel)) (hts (.instantiable RX4 2) (by decide +kernel)) (hts (.initialized RX4) (by decide +kernel)) hK hS rfl (fun x hx9 => match x, hx9 with | 0, _ => rfl | 1, _ => rfl) (by show _ ≤ 290; omega) (by show _ ≤ 8700; omega) dL_build_0 (fun so H hq hso hC hS => ?_)
  have hDk := dk_kept hDk0 hC (fun _ _ z => z)
  have hZ := hZ0.kept hC (fun _ z => z.elim)
  have hX := hX0.kept (hC.2 b (X_lt hX0) (fun z => z))
  have lso := one_lt hso
  refine lv_dup hx hb dL_build_3 rfl ?_
  refine n_call (va_runIN (As := []) (rest := [.ref so]) (g := F0 m 4 ls [.ref so, .ref so]) S (c_X4_init l g H.size so) ⟨va_cnB 0 hts gL_build_X4_init_n84 rfl rfl rfl (hK.2.2.2.2.2.2.1 ("LetterSealsLaw", 84, yX4_init) (List.mem_of_getElem? (i := 0) rfl)) (hts (.initialized RX4) (by decide +kernel)) (by decide +kernel) ⟨Nat.le_of_ble_eq_true rfl, Nat.le_of_ble_eq_true rfl⟩, rfl, hts (.instanceMethod yX4_init) (by decide +kernel)⟩ ⟨nPc_blind, fun U hU hWm => ⟨rfl, by rw [hU], hK.warm hWm, by rw [hU]; exact hso⟩⟩ rfl rfl hl.1 rfl (Nat.le_of_ble_eq_true rfl) dL_build_4 ⟨by show _ ≤ 290; omega, by show _ ≤ 8700; omega⟩) hS (fun q z => by subst z; exact Or.inr hq) (fun q z => Or.inr z) (fun v H locs hpost hC hS => ?_)
  obtain ⟨rfl, la, ea, l1, l2, n1, hSo, hLa, hEa⟩ := hpost
  have hDk := dk_kept hDk hC (fun k9 hk9 z => by have := hJD.2.1 k9 hk9; omega)
  have hB0 : B0 ≤ s.heap.size := hJD.2.2
  have hZ := hZ.kept hC (fun q z => by subst z; omega)
  have hX := hX.kept (hC.2 b (X_lt hX) (fun z => by omega))
  have hW : SW g s.heap.size so la ea (fun _ => 0) (fun _ => 0) (fun _ => 0) L0 E0 (fun _ => (fun _ => 0, 0)) 0 0 H := ⟨⟨hSo, rq_ext hLa (fun j hj => absurd hj (Nat.not_lt_zero j)), rq_ext hEa (fun j hj => absurd hj (Nat.not_lt_zero j))⟩, ⟨hq, by omega, by omega, by omega, by omega, n1⟩, fun i hi => absurd hi (Nat.not_lt_zero i), fun q hq => absurd hq (Nat.not_lt_zero q)⟩
  have hI : Iv L0 E0 (fun _ => 0) (fun _ => (fun _ => 0, 0)) 0 0 := ⟨by decide, by decide, fun i _ => Nat.zero_le 40, fun i _ _ => rfl, fun i hi => absurd hi (Nat.not_lt_zero i), fun q hq => absurd hq (Nat.not_lt_zero q)⟩
  have hJ : JW g s.heap.size AD so L0 E0 (fun _ => 0) (fun _ => (fun _ => 0, 0)) 0 0 la ea (fun _ => 0) (fun _ => 0) (fun _ => 0) H := ⟨hI, hDk, hW⟩
  have hret : ∀ (pc : Nat) (ls : Array Slot) (H : Heap) (locs : List Loc) (so : Nat) (LL : Nat → ltT) (EE : Nat → evT) (LN : Nat → Nat) (TT : Nat → (Nat → Int32) × Nat) (lc ec la ea : Nat) (ra xa ta : Nat → Nat), JW g s.heap.size AD so LL EE LN TT lc ec la ea ra xa ta H → va_S (fA (bA B0) s.heap.size) s.heap H locs → decode cL_build pc = .ok (.areturn, 1) → W p l e { frames := 10, cells := 290, slots := 8700, locals := 182 } s m _ below meth c H locs 290 8700 (MQ below (nQ (fun v H => ∃ (so : Nat) (LL : Nat → ltT) (EE : Nat → evT) (LN : Nat → Nat) (TT : Nat → (Nat → Int32) × Nat) (lc ec la ea : Nat) (ra xa ta : Nat → Nat), v = some (.ref so) ∧ JW g s.heap.size AD so LL EE LN TT lc ec la ea ra xa ta H) (fA (bA B0) s.heap.size)) #[.ref (AD 0), .ref b] s 290 8700 (fA (bA B0) s.heap.size)) (F0 m pc ls [.ref so]) :=
    fun pc ls H locs so LL EE LN TT lc ec la ea ra xa ta hJ hS hd => W.aret hx hb B.returns (Or.inl ⟨_, rfl⟩) (Or.inr ⟨_, rfl⟩) (fun t ht _ => ⟨_, rfl, by rw [ht]; exact ⟨so, LL, EE, LN, TT, lc, ec, la, ea, ra, xa, ta, rfl, hJ⟩, hS.F ht⟩) hS.2.2 hd B.notSynchronized
  refine lv_astore_n (lv' := [(2, .ref so), (0, .ref (AD 0)), (1, .ref b)]) hx hb dL_build_7 rfl hl (by decide) rfl (fun ls hl => ?_)
  refine lv_bipush (v := nI 16) hx hb dL_build_8 (by decide +kernel) ?_
  refine lv_aload_n hx hb dL_build_10 rfl (lv_at hl 2 rfl) ?_
  refine lv_iconst (v := nI 0) hx hb dL_build_11 (by decide +kernel) ?_
  refine ce_S (g := g) (k := 0) (rest := [.int (nI 16)]) S (by omega) hL (va_cwS 2 hts gL_build_L_cell rfl rfl rfl (by decide +kernel) ⟨Nat.le_of_ble_eq_true rfl, Nat.le_of_ble_eq_true rfl⟩) hK hX hl.1 rfl (Nat.le_of_ble_eq_true rfl) dL_build_12 ⟨by show _ ≤ 290; omega, by show _ ≤ 8700; omega⟩ ?_
  refine lv_bipush (v := nI 24) hx hb dL_build_15 (by decide +kernel) ?_
  refine p_S (As := [.int (ceV L xs 0), .int (nI 24)]) (rest := [.int (nI 16)]) S (c_L_below l g (ceV L xs 0) 24 (by omega) (by omega)) (va_cwS 2 hts gL_build_L_below rfl rfl rfl (by decide +kernel) ⟨Nat.le_of_ble_eq_true rfl, Nat.le_of_ble_eq_true rfl⟩) hK trivial rfl hl.1 rfl (Nat.le_of_ble_eq_true rfl) dL_build_17 ⟨by show _ ≤ 290; omega, by show _ ≤ 8700; omega⟩ ?_
  obtain ⟨r, hr, er⟩ := blw_lt (ceV L xs 0) (k := 24) (by omega) (by omega)
  refine lv_toI (z := nI r) er ?_
  refine lv_iadd hx hb dL_build_20 ?_
  refine lv_toI (z := nI (16 + r)) (nI_add _ _) ?_
  refine lv_istore_n (lv' := [(3, .int (nI (16 + r))), (2, .ref so), (0, .ref (AD 0)), (1, .ref b)]) hx hb dL_build_21 rfl hl (by decide) rfl (fun ls hl => ?_)
  refine lv_iconst (v := nI 0) hx hb dL_build_22 (by decide +kernel) ?_
  refine lv_istore (lv' := [(4, .int (nI 0)), (3, .int (nI (16 + r))), (2, .ref so), (0, .ref (AD 0)), (1, .ref b)]) hx hb dL_build_23 hl (by decide) rfl (fun ls hl => ?_)
  exact build_25 l hlt g hx hb hml hts hown hK hJD hbB hL hret (by omega) (16 + r + 1) 0 _ _ _ _ _ _ _ _ _ _ _ H _ ls (by omega) (by omega) hJ hZ hX hS (lv_sub hl [0, 1, 2, 4, 3] rfl)
