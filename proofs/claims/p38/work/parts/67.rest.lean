/-! THE LAW: the desk by hand made; a cell of the script; how much a tear changes; alike at the end -/
theorem mean_c : ∀ t, t < 481 → ∀ c, c < 13 → c = 0 ∨ Op.cmpValue (FP.dcmp (FP.ddiv (FP.i2d (nI t)) (FP.i2d (nI c))) (FP.ddiv (FP.i2d (nI t)) (FP.i2d (nI c)))) .l = 0 := by decide +kernel
theorem mean_0 : Op.cmpValue (FP.dcmp FP.dconst0 FP.dconst0) .l = 0 := by decide +kernel
theorem mean_s {lc t : Nat} (ht : t < 481) (hc : lc < 13) : Op.cmpValue (FP.dcmp (mnD lc t) (mnD lc t)) .l = 0 := by
  unfold mnD
  by_cases h : lc = 0
  · rw [if_pos h]; exact mean_0
  · rw [if_neg h]; exact (mean_c t ht lc hc).resolve_left h
set_option maxHeartbeats 4000000 in
set_option maxRecDepth 100000 in
/-- LetterSealsLaw$Sim() -/
theorem c_X4_init (l : Launch) (g : gT) (sz h : Nat) : nM g l yX4_init wsX4_init { frames := 1, cells := 2, slots := 0, locals := 12 } [.ref h] sz (fun H => va_P (gD g) vwCl [(h, .inr (4, [.null, .null]))] H) (fun v H => v = none ∧ ∃ la ea, sz ≤ la ∧ sz ≤ ea ∧ ¬ la = ea ∧ va_P (gD g) vwCl (soW h la ea) H ∧ va_P (gD g) vwCl (rmW g la (fun _ => none) 0) H ∧ va_P (gD g) vwCl (rvW g ea (fun _ => none) 0) H) 2 0 (fun q => q = h) := by
  refine nr_ofV (cc := cX4_init) (maxL := 1) (by decide) rfl (Nat.le_of_ble_eq_true rfl) ?_
  intro p e s m args below meth c ls Q hx hb hml hts hown hK hsz hP hl hret
  subst hsz
  have hl : lv_has ls 1 [(0, .ref h)] := hl
  have iX4 : ∀ w ∈ u_ws RX4 TX4 2, w ∈ wsX4_init := by decide +kernel
  have f9 := hts (.fieldLink RX4 9 "LetterSealsLaw$Sim" "letters" "[[I") (by decide +kernel)
  have f17 := hts (.fieldLink RX4 17 "LetterSealsLaw$Sim" "envelopes" "[LLetterSealsLaw$Envelope;") (by decide +kernel)
  have lh := one_lt hP
  have hS : va_S (fA (fun q => q = h) s.heap.size) s.heap s.heap [] := va_S.rf
  refine lv_aload_n hx hb dX4_init_0 rfl (lv_at hl 0 rfl) ?_
  refine W.objInit hx hb hown (hts (.methodLink RX4 1 objectInit) (by decide +kernel)) (hts (.instanceMethod objectInit) (by decide +kernel)) (hts _ (List.mem_cons_of_mem _ ((List.mem_of_getElem? (i := 2) rfl)))) rfl (by rw [hml]; exact hl.1) rfl dX4_init_1 (Nat.le_of_ble_eq_true rfl) (Nat.le_of_ble_eq_true rfl) ?_
  refine W.eq (g2 := F0 m 4 ls []) rfl ?_
  refine lv_aload_n hx hb dX4_init_4 rfl (lv_at hl 0 rfl) ?_
  refine lv_iconst (v := nI 0) hx hb dX4_init_5 (by decide +kernel) ?_
  refine nw_A (n := 0) hx hb hown (hts (.classLink RX4 7 "[I") (by decide +kernel)) hK hS (by omega) (by show _ ≤ 2; omega) (by show _ ≤ 0; omega) dX4_init_6 (fun X0 H hq hX0 hC hS => ?_)
  have hP := hC.one hP (fun z => z)
  refine pt_O (ci := 4) (v := .ref X0) (ty := .array (.array .int)) (C := RX4) (T := TX4) (N := 2) (fs := [.null, .null]) hx hb hts iX4 tyX4 tyX4_ok nmX4 hown hK hP hS (Or.inl rfl) rfl 0 (by decide) f9 (fun _ h9 => h9) rfl (by decide +kernel) rfl rfl (Nat.le_of_ble_eq_true rfl) dX4_init_9 (fun H locs hP hC2 hS => ?_)
  have hP : va_P (gD g) vwCl [(h, .inr (4, [.ref X0, .null]))] H := hP
  have hX0 := hC2.one hX0 (by omega)
  have hz1 : s.heap.size ≤ H.size := Nat.le_trans hC.1 hC2.1
  refine lv_aload_n hx hb dX4_init_12 rfl (lv_at hl 0 rfl) ?_
  refine lv_iconst (v := nI 0) hx hb dX4_init_13 (by decide +kernel) ?_
  refine nw_V (n := 0) hx hb hown (hts (.classLink RX4 15 RX3) (by decide +kernel)) hK hS (by omega) (by show _ ≤ 2; omega) (by show _ ≤ 0; omega) dX4_init_14 (fun X1 H hq1 hX1 hC3 hS => ?_)
  have n01 : ¬ X0 = X1 := by have := one_lt hX0; omega
  have hP := hC3.one hP (fun z => z)
  have hX0 := hC3.one hX0 (fun z => z)
  refine pt_O (ci := 4) (v := .ref X1) (ty := .array (.object "LetterSealsLaw$Envelope")) (C := RX4) (T := TX4) (N := 2) (fs := [.ref X0, .null]) hx hb hts iX4 tyX4 tyX4_ok nmX4 hown hK hP hS (Or.inl rfl) rfl 1 (by decide) f17 (fun _ h9 => h9) rfl (by decide +kernel) rfl rfl (Nat.le_of_ble_eq_true rfl) dX4_init_17 (fun H locs hP hC4 hS => ?_)
  have hP : va_P (gD g) vwCl (soW h X0 X1) H := hP
  exact W.widen (by show _ ≤ 2; omega) (by show _ ≤ 0; omega) (hret _ _ _ _ ⟨rfl, X0, X1, by omega, by omega, n01, hP, hC4.one hX0 (by omega), hC4.one hX1 (by omega)⟩ hS dX4_init_20)
/-- a cell of the script -/
def ceV (L : Nat) (xs : Nat → Int32) (k : Nat) : Int32 := if k < L then xs k else 790386105 * nI (k + 3)
def xPb (g : gT) (av : List Value) (b L : Nat) (xs : Nat → Int32) : Array Value → State → Prop := va_Pc av (fun U => KK g U ∧ va_X b L xs U U.heap)
theorem xPb_blind {g : gT} {av : List Value} {b L : Nat} {xs : Nat → Int32} : FrameBlind (xPb g av b L xs) := fun a U f mk h => ⟨h.1, h.2.1.calling, h.2.2.moved (u := U) (U := U.calling f mk a) (Vm.Alike.refl U.vm)⟩
set_option maxHeartbeats 4000000 in
set_option maxRecDepth 100000 in
theorem c_L_cell (l : Launch) (g : gT) (b L : Nat) (xs : Nat → Int32) (k : Nat) (hk : k < 1000) (hL : L < 1000) : Met l yL_cell wsL_cell { frames := 0, cells := 0, slots := 0, locals := 0 } (xPb g [.ref b, .int (nI k)] b L xs) (pQ (.int (ceV L xs k))) 0 0 (fun _ => False) := by
  refine Met.ofW (cc := cL_cell) (maxL := 2) (ret := some .int) (by decide) rfl ?_
  intro p e s m args below meth c s₁ B hml hv
  obtain ⟨rfl, hK, hX⟩ := hv
  have hl := lv_entry [.ref b, .int (nI k)] (n := 2) (Nat.le_of_ble_eq_true rfl)
  rw [lg_entry_eq]
  have hx := B.exec
  have hb := B.bytes
  have hts := atoms_spec (ws := wsL_cell) B.pre
  have hown : s.vm.findClass RL = some m.cls := findClass_of_methodNamed B.named
  generalize (lg_sl ([.ref b, .int (nI k)]) ++ List.replicate (2 - (lg_sl ([.ref b, .int (nI k)])).length) Slot.unset).toArray = ls at hl ⊢
  have hl : lv_has ls 2 [(0, .ref b), (1, .int (nI k))] := hl
  have hbl : b < s.heap.size := by
    obtain ⟨scr, h1, -⟩ := hX
    exact (Array.getElem?_eq_some_iff.mp h1).1
  have hS : va_S (fun _ => False) s.heap s.heap [] := va_S.rf
  refine lv_iload_n hx hb dL_cell_0 rfl (lv_at hl 1 rfl) ?_
  refine lv_aload_n hx hb dL_cell_1 rfl (lv_at hl 0 rfl) ?_
  refine va_slen hx hb hX hbl (fun z => z) hS dL_cell_2 ?_
  refine br_ge (a := k) (b := L) (tgt := 12) hx hb (by omega) (by omega) dL_cell_3 (by decide) (fun c3 => ?_) (fun c3 => ?_)
  · refine lv_ldc (v := 790386105) hx hb hown (hts (.constant RL 8 (790386105)) (by decide +kernel)) dL_cell_12 ?_
    refine lv_iload_n hx hb dL_cell_14 rfl (lv_at hl 1 rfl) ?_
    refine lv_iconst (v := nI 3) hx hb dL_cell_15 (by decide +kernel) ?_
    refine lv_iadd hx hb dL_cell_16 ?_
    refine lv_toI (z := nI (k + 3)) (nI_add _ _) ?_
    refine lv_imul hx hb dL_cell_17 ?_
    refine lv_toI (z := ceV L xs k) (by unfold ceV; rw [if_neg (by omega)]) ?_
    exact W.iret hx hb B.returns (fun t ht _ => ⟨rfl, ht⟩) (fun q h => absurd h List.not_mem_nil) dL_cell_18 B.notSynchronized
  · refine lv_aload_n hx hb dL_cell_6 rfl (lv_at hl 0 rfl) ?_
    refine lv_iload_n hx hb dL_cell_7 rfl (lv_at hl 1 rfl) ?_
    refine va_sld hx hb hX hbl (fun z => z) hS (vp_in_nI (by omega) (by omega)) dL_cell_8 ?_
    refine lv_toI (z := ceV L xs k) (by unfold ceV; rw [if_pos (by omega), nI_clamp (by omega)]) ?_
    refine lv_goto (tgt := 18) hx hb dL_cell_9 (by decide) ?_
    exact W.iret hx hb B.returns (fun t ht _ => ⟨rfl, ht⟩) (fun q h => absurd h List.not_mem_nil) dL_cell_18 B.notSynchronized
/-- by how much a tear would change the digest -/
def tvV (f : Nat → Int32) (n pl : Nat) : Int32 := if f pl = 30 then -1 else ab (dgF (upd f pl 30) n - dgF f n)

theorem tv_p {f : Nat → Int32} {n pl : Nat} (h : ¬ f pl = 30) (h2 : 0 ≤ dgF (upd f pl 30) n - dgF f n) : dgF (upd f pl 30) n - dgF f n = tvV f n pl := by
  unfold tvV ab
  rw [if_neg h, if_pos h2]
theorem tv_n {f : Nat → Int32} {n pl : Nat} (h : ¬ f pl = 30) (h2 : ¬ 0 ≤ dgF (upd f pl 30) n - dgF f n) : -(dgF (upd f pl 30) n - dgF f n) = tvV f n pl := by
  unfold tvV ab
  rw [if_neg h, if_neg h2, Int32.zero_sub]
set_option maxHeartbeats 4000000 in
set_option maxRecDepth 100000 in
theorem c_L_torn (l : Launch) (g : gT) (sz : Nat) (B so la ea : Nat) (ra xa ta : Nat → Nat) (AD : Nat → Nat) (LL : Nat → ltT) (EE : Nat → evT) (LN : Nat → Nat) (TT : Nat → (Nat → Int32) × Nat) (lc ec : Nat) (hI : Iv LL EE LN TT lc ec) (k pl : Nat) (hk : k < lc) (hpl : pl < (LL k).2.2) : nM g l yL_torn wsL_torn { frames := 9, cells := 1, slots := 40, locals := 148 } [.ref (AD 0), .ref (so), .int (nI (k)), .int (nI (pl))] sz (fun H => va_P (gD g) vwCl (wsD g AD LL EE lc ec) H ∧ SW g B so la ea ra xa ta LL EE TT lc ec H) (fun v _ => v = some (.int (tvV (LL k).1 (LL k).2.2 pl))) 1 40 (nil_) := by
  refine nr_ofI (cc := cL_torn) (maxL := 5) (by decide) rfl (Nat.le_of_ble_eq_true rfl) ?_
  intro p e s m args below meth c ls Q hx hb hml hts hown hK hsz hP hl hret
  subst hsz
  have hl : lv_has ls 5 [(0, .ref (AD 0)), (1, .ref (so)), (2, .int (nI (k))), (3, .int (nI (pl)))] := hl
  have S : CallFix p m c cL_torn 5 s args wsL_torn RL := ⟨hx, hb, hml, hown, hts⟩
  obtain ⟨hDk, hW⟩ := hP
  have hle := hI.le hk
  have hlc12 := hI.1
  have iX4 : ∀ w ∈ u_ws RX4 TX4 2, w ∈ wsL_torn := by decide +kernel
  have f9 := hts (.fieldLink RL 9 "LetterSealsLaw$Sim" "letters" "[[I") (by decide +kernel)
  obtain ⟨H, eH⟩ : ∃ H : Heap, H = s.heap := ⟨_, rfl⟩
  have hS : va_S (fA (nil_) s.heap.size) s.heap H [] := by rw [eH]; exact va_S.rf
  have hDk : va_P (gD g) vwCl (wsD g AD LL EE lc ec) H := by rw [eH]; exact hDk
  have hW : SW g B so la ea ra xa ta LL EE TT lc ec H := by rw [eH]; exact hW
  suffices hgo : W p l e { frames := 9, cells := 1, slots := 40, locals := 148 } s m args below meth c H [] 0 0 Q (F0 m 0 ls []) by rw [eH] at hgo; exact hgo
  clear eH
  refine lv_aload_n hx hb dL_torn_0 rfl (lv_at hl 0 rfl) ?_
  refine lv_iload_n hx hb dL_torn_1 rfl (lv_at hl 2 rfl) ?_
  refine lv_iload_n hx hb dL_torn_2 rfl (lv_at hl 3 rfl) ?_
  refine p_V (As := [.int (nI (k)), .int (nI (pl))]) (rest := []) S (c_X2_signAt l g AD LL EE LN lc ec hI.1 hI.2.1 hI.hLL hI.hEE k hk pl hpl) (cwV 2 hts gL_torn_X2_signAt rfl rfl rfl (by decide +kernel) ⟨Nat.le_of_ble_eq_true rfl, Nat.le_of_ble_eq_true rfl⟩) hK (va_recv hK.1 hDk (ci := 2) (q0 := 0) rfl dk_me) hDk rfl hl.1 rfl (Nat.le_of_ble_eq_true rfl) dL_torn_3 ⟨by show _ ≤ 1; omega, by show _ ≤ 40; omega⟩ ?_
  refine lv_bipush (v := 30) hx hb dL_torn_6 (by decide +kernel) ?_
  refine lv_icmp_ne (tgt := 13) hx hb dL_torn_8 (by decide) (fun c8 => ?_) (fun c8 => ?_)
  · refine lv_aload_n hx hb dL_torn_13 rfl (lv_at hl 1 rfl) ?_
    refine va_get (D := gD g) (ci := 4) (v := .ref (la)) (C := RX4) (T := TX4) (N := 2) hx hb hts iX4 hown hK.1 hW.1.1 0 rfl rfl 0 (by decide) f9 (fun _ h9 => h9) rfl dL_torn_14 ?_
    refine lv_iload_n hx hb dL_torn_17 rfl (lv_at hl 2 rfl) ?_
    refine gt_A (k := k) (r := ra k) hx hb hK hW.1.2.1 rfl (by omega) (by omega) dL_torn_18 ?_
    refine lv_iload_n hx hb dL_torn_19 rfl (lv_at hl 3 rfl) ?_
    refine lv_bipush (v := 30) hx hb dL_torn_20 (by decide +kernel) ?_
    have hsz9 := hS.1
    refine n_S (As := [.ref (ra k), .int (nI (pl)), .int (30)]) (rest := []) S (c_X4_changed l g H.size (ra k) (LL k).1 (LL k).2.2 pl 30 (by omega) (by omega)) (va_cwS 3 hts gL_torn_X4_changed rfl rfl rfl (by decide +kernel) ⟨Nat.le_of_ble_eq_true rfl, Nat.le_of_ble_eq_true rfl⟩) hK (hW.2.2.1 k (by omega)).1 hS (fun q z => z.elim) (fun q hq => Or.inr hq) rfl hl.1 rfl (Nat.le_of_ble_eq_true rfl) dL_torn_22 ⟨by show _ ≤ 1; omega, by show _ ≤ 40; omega⟩ (fun v H locs hpost hC hS => ?_)
    obtain ⟨X0, rfl, lX9, hX0⟩ := hpost
    have lX0 : s.heap.size ≤ X0 := Nat.le_trans hsz9 lX9
    have hDk := dk_kept hDk hC (fun _ _ z => z)
    have hW := hW.keepN hC
    refine p_S (As := [.ref (X0)]) (rest := []) S (c_X4_digest l g X0 (upd (LL k).1 (pl) (30)) (LL k).2.2 (by omega)) (va_cwS 1 hts gL_torn_X4_digest rfl rfl rfl (by decide +kernel) ⟨Nat.le_of_ble_eq_true rfl, Nat.le_of_ble_eq_true rfl⟩) hK (hX0) rfl hl.1 rfl (Nat.le_of_ble_eq_true rfl) dL_torn_25 ⟨by show _ ≤ 1; omega, by show _ ≤ 40; omega⟩ ?_
    refine lv_aload_n hx hb dL_torn_28 rfl (lv_at hl 0 rfl) ?_
    refine lv_iload_n hx hb dL_torn_29 rfl (lv_at hl 2 rfl) ?_
    refine p_V (As := [.int (nI (k))]) (rest := [.int (dgF (upd (LL k).1 (pl) (30)) (LL k).2.2)]) S (c_X2_digestOf l g AD LL EE LN lc ec hI.1 hI.2.1 hI.hLL hI.hEE k hk) (cwV 1 hts gL_torn_X2_digestOf rfl rfl rfl (by decide +kernel) ⟨Nat.le_of_ble_eq_true rfl, Nat.le_of_ble_eq_true rfl⟩) hK (va_recv hK.1 hDk (ci := 2) (q0 := 0) rfl dk_me) hDk rfl hl.1 rfl (Nat.le_of_ble_eq_true rfl) dL_torn_30 ⟨by show _ ≤ 1; omega, by show _ ≤ 40; omega⟩ ?_
    refine lv_isub hx hb dL_torn_33 ?_
    refine lv_istore (lv' := [(4, .int ((dgF (upd (LL k).1 (pl) (30)) (LL k).2.2) - (dgF ((LL k).1) ((LL k).2.2)))), (0, .ref (AD 0)), (1, .ref (so)), (2, .int (nI (k))), (3, .int (nI (pl)))]) hx hb dL_torn_34 hl (by decide) rfl (fun ls hl => ?_)
    refine lv_iload hx hb dL_torn_36 (lv_at hl 0 rfl) ?_
    refine lv_if_ge (tgt := 47) hx hb dL_torn_38 (by decide) (fun c38 => ?_) (fun c38 => ?_)
    · refine lv_iload hx hb dL_torn_47 (lv_at hl 0 rfl) ?_
      refine lv_toI (z := tvV (LL k).1 (LL k).2.2 pl) (tv_p c8 c38) ?_
      exact W.widen (by show _ ≤ 1; omega) (by show _ ≤ 40; omega) (hret _ _ _ _ _ (rfl) hS dL_torn_49)
    · refine lv_iload hx hb dL_torn_41 (lv_at hl 0 rfl) ?_
      refine lv_ineg hx hb dL_torn_43 ?_
      refine lv_goto (tgt := 49) hx hb dL_torn_44 (by decide) ?_
      refine lv_toI (z := tvV (LL k).1 (LL k).2.2 pl) (tv_n c8 c38) ?_
      exact W.widen (by show _ ≤ 1; omega) (by show _ ≤ 40; omega) (hret _ _ _ _ _ (rfl) hS dL_torn_49)
  · refine lv_iconst (v := (-1)) hx hb dL_torn_11 (by decide +kernel) ?_
    refine lv_toI (z := tvV (LL k).1 (LL k).2.2 pl) (by unfold tvV; rw [if_pos c8]) ?_
    exact W.widen (by show _ ≤ 1; omega) (by show _ ≤ 40; omega) (hret _ _ _ _ _ (rfl) hS dL_torn_12)
