/-! digest in the law -/
section DGL
variable {LL : Nat → ltT} {EE : Nat → evT} {LN : Nat → Nat} {lc ec : Nat} {V : Nat → Nat → Int32}
theorem wl_eq (I : Inv LL EE LN lc ec V) {k : Nat} (hk : k < lc) (d : Int64) : wlJ d (LL k).1 (LL k).2.2 = wmJ V (fun i => (LL i).2.2) d k := by
  have hR := I.row hk
  have hn := I.2.2.1 k (Nat.lt_of_lt_of_le hk I.1)
  unfold wlJ wmJ
  rw [ws_eq hn (I.nat hk) hR, cntF_congr (x := 27) hR, cntF_congr (x := 30) hR, dgF_congr hR, ss_eq (fl := false) (by decide) hR, ss_eq (fl := true) (by decide) hR, unF_congr hR, (I.2.2.2.2.1 k hk).1]
theorem we_eq (I : Inv LL EE LN lc ec V) {q : Nat} (hq : q < ec) (d : Int64) : weJ d LL EE LN q = weM V (fun i => (LL i).2.2) LN (fun q => (EE q).2.2.1) d q := by
  obtain ⟨⟨a1, a2, a3, a4⟩, ⟨b1, b2, b3, b4⟩, ⟨d1, d2, d3⟩, ⟨f1, f2⟩, f3, f4⟩ := I.2.2.2.2.2 q hq
  have hR := I.row a2
  have hn := I.2.2.1 (LN q) (Nat.lt_of_lt_of_le a2 I.1)
  have h1 := ft_eq hR b2
  have h2 := ch_D hn (I.nat a2) hR h1 d1 d2 f1 f2 f3 f4
  have h3 : acF (toD LL EE LN q) 0 8 = acF (toP V (fun i => (LL i).2.2) LN (fun q => (EE q).2.2.1) q) 0 8 := acF_congr fun u _ => to_eq hR a4 b4 u
  have h4 : fsF (toD LL EE LN q) 8 0 = fsF (toP V (fun i => (LL i).2.2) LN (fun q => (EE q).2.2.1) q) 8 0 := fsF_congr fun u _ _ => to_eq hR a4 b4 u
  unfold weJ weM
  rw [h1, h2, h3, h4, b1, b2, d3]
theorem djL_eq (I : Inv LL EE LN lc ec V) (d : Int64) : ∀ i, i ≤ lc → djL LL d i = dmL V (fun i => (LL i).2.2) d i
  | 0, _ => rfl
  | i + 1, h => by rw [djL, dmL, djL_eq I d i (by omega), wl_eq I (by omega)]
theorem djE_eq (I : Inv LL EE LN lc ec V) (d : Int64) : ∀ i, i ≤ ec → djE LL EE LN d i = dmE V (fun i => (LL i).2.2) LN (fun q => (EE q).2.2.1) d i
  | 0, _ => rfl
  | i + 1, h => by rw [djE, dmE, djE_eq I d i (by omega), we_eq I (by omega)]
theorem dj0_eq (I : Inv LL EE LN lc ec V) : dj0 LL EE LN lc ec = dm0 V (fun i => (LL i).2.2) LN lc ec := by
  unfold dj0 dm0
  rw [db_eq (r := rwV V) fun i hi => I.row hi, fsF_congr (P := fun q => !ftD LL EE LN q) (Q := fun q => !asP V (fun i => (LL i).2.2) LN q) fun q _ hq => by
    show (!ftD LL EE LN q) = _
    rw [ft_eq (V := V) (I.row ((I.2.2.2.2.2 q (by omega)).1.2.1)) (I.2.2.2.2.2 q (by omega)).2.1.2.1]]
  rw [show (1979 * 31 : Int64) = 61349 by decide +kernel]
theorem dj_eq (I : Inv LL EE LN lc ec V) : djE LL EE LN (djL LL (dj0 LL EE LN lc ec) lc) ec = dmE V (fun i => (LL i).2.2) LN (fun q => (EE q).2.2.1) (dmL V (fun i => (LL i).2.2) (dm0 V (fun i => (LL i).2.2) LN lc ec) lc) ec := by
  rw [djE_eq I _ ec (Nat.le_refl _), djL_eq I _ lc (Nat.le_refl _), dj0_eq I]
end DGL
section LAW2
variable {p : Program} {l : Launch} {e : Env} {R : Room} {s : State} {m : MethodId} {args : Array Value} {below : List Frame} {meth : Method} {c : Code} {H : Heap} {cells slots : Nat} {Q : State → Prop}
variable {pc : Nat} {ls : Array Slot} {rest st0 : List Value} {cc : ByteArray}
variable {g : gT} {AD : Nat → Nat} {LL LL' : Nat → ltT} {EE EE' : Nat → evT} {lc ec lc' ec' h : Nat} {X : Nat → Nat} {V V' : Nat → Nat → Int32} {th th' : Int32} {ou : Nat} {v : Int64}
variable {y : MethodName} {bytes : ByteArray} {maxL nL n index mc ms : Nat} {ret : Option FieldType} {ws : List Cond} {rm : Room} {Ts : List Cond} {own C : String} {b : Addr} {As : List Value}
theorem lw_D {r : Value} (S : CallFix p m c cc nL s args Ts own) (hM : wM g l y ws rm (.ref b :: As) (wsD g AD LL EE lc ec) (some r) (wsD g AD LL' EE' lc' ec')) (cw : CallW R s args own C index y bytes maxL ret ws rm 0 0 n) (hK : KK g s) (hrec : ∃ cellB : Cell, H[b]? = some cellB ∧ cellB.vm.isStatics = false ∧ s.vm.findClass C = some cellB.cls) (hD : LD g (hiA s) AD h X ou) (hW : LW g AD LL EE lc ec h X V th ou v H) (hS : va_S (hiA s) s.heap H []) (hn : As.length = n) (hsize : ls.size = nL) (hst : st0 = As.reverse ++ .ref b :: rest) (hWr : (rest.map fun v => v.category).sum ≤ 8) (hdg : decode cc pc = .ok (.invokevirtual index, 3)) (hf : cells + 0 ≤ R.cells ∧ slots + 0 ≤ R.slots)
    (kk : ∀ H1 : Heap, LW g AD LL' EE' lc' ec' h X V th ou v H1 ∧ True → va_S (hiA s) s.heap H1 [] → W p l e R s m args below meth c H1 [] cells slots Q (F0 m (pc + 3) ls (r :: rest))) (hsame : lc' = lc ∧ ec' = ec) : W p l e R s m args below meth c H [] cells slots Q (F0 m pc ls st0) := by
  obtain ⟨d1, d2, d3, d4, d5, d6⟩ := hD
  obtain ⟨hP, hPm, hO⟩ := hW
  refine w_V S hM cw hK hrec hP ((d1 LL EE lc ec).weaken (fun _ _ _ _ => trivial)) hS (fun q hq => wA_of (d1 LL EE lc ec) q hq) hn hsize hst hWr hdg hf (fun H1 locs1 hP1 hz1 hk1 hS1 => ?_)
  obtain ⟨rfl, rfl⟩ := hsame
  refine va_forget (fun q hq => hS1.2.2 q hq) (kk H1 ⟨⟨hP1, hPm.kept fun k x hx => hk1 x.1 (hPm k x hx).lt (fun z => ?_), out_kept hO hk1 (fun z => ?_)⟩, trivial⟩ ⟨hS1.1, hS1.2.1, fun _ hq => nomatch hq⟩)
  · obtain ⟨k9, h9, e9⟩ := wA_ds z
    exact d3 k9 h9 (e9 ▸ md_of hx)
  · obtain ⟨k9, h9, e9⟩ := wA_ds z
    exact d4 k9 h9 e9.symm
/-- a call of the reference that makes cells -/
theorem lw_G {r : Value} (S : CallFix p m c cc nL s args Ts own) (hM : Met l y ws rm (iPc g (.ref b :: As) H.size (mdW g h X V th lc ec)) (wQ g (some r) (mdW g h X V' th' lc' ec') (va_A (mdW g h X V th lc ec) H.size)) mc ms (va_A (mdW g h X V th lc ec) H.size)) (cw : CallW R s args own C index y bytes maxL ret ws rm mc ms n) (hK : KK g s) (hrec : ∃ cellB : Cell, H[b]? = some cellB ∧ cellB.vm.isStatics = false ∧ s.vm.findClass C = some cellB.cls) (hD : LD g (hiA s) AD h X ou) (hP : va_P (gD g) vwCl (wsD g AD LL' EE' lc' ec') H) (hPm : va_P (gD g) vwCl (mdW g h X V th lc ec) H) (hO : va_P (gD g) vwCl (outW g ou v) H) (hS : va_S (hiA s) s.heap H []) (hn : As.length = n) (hsize : ls.size = nL) (hst : st0 = As.reverse ++ .ref b :: rest) (hWr : (rest.map fun v => v.category).sum ≤ 8) (hdg : decode cc pc = .ok (.invokevirtual index, 3)) (hf : cells + mc ≤ R.cells ∧ slots + ms ≤ R.slots)
    (kk : ∀ H1 : Heap, LW g AD LL' EE' lc' ec' h X V' th' ou v H1 → va_S (hiA s) s.heap H1 [] → W p l e R s m args below meth c H1 [] (cells + mc) (slots + ms) Q (F0 m (pc + 3) ls (r :: rest))) : W p l e R s m args below meth c H [] cells slots Q (F0 m pc ls st0) := by
  obtain ⟨d1, d2, d3, d4, d5, d6⟩ := hD
  have hr := va_runV (e := e) (below := below) (meth := meth) (g := F0 m pc ls st0) (rest := rest) (H := H) (locs := []) (cells := cells) (slots := slots) S hM cw ⟨iPc_blind, hrec, fun U hU hWm => ⟨rfl, by rw [hU], hK.warm hWm, by rw [hU]; exact hPm, (d2 V th lc ec).weaken (fun _ _ _ _ => trivial)⟩⟩ rfl hn hsize hst (lv_room hWr) hdg hf
  intro T hT X9
  obtain ⟨v9, st₀, t, T', L, h0, X', hL, e1, e2, ⟨hv, hp, hz, hk⟩, st⟩ := hr T hT X9
  cases hv
  rw [h0] at hz hk
  have hin : ∀ q, va_A (mdW g h X V th lc ec) H.size q → s.heap.size ≤ q := fun q hq => hq.elim (fun z => wA_of (d2 V th lc ec) q z) (fun z => Nat.le_trans hS.1 z)
  have hno : ∀ q, q < H.size → ¬ mdA h X q → ¬ va_A (mdW g h X V th lc ec) H.size q := fun q hq hm hz => hz.elim (fun z => hm (wA_md z)) (fun z => absurd hq (Nat.not_lt.mpr z))
  have hP1 : va_P (gD g) vwCl (wsD g AD LL' EE' lc' ec') t.heap := hP.kept fun k x hx => hk x.1 (hP k x hx).lt (hno _ (hP k x hx).lt (by
    obtain ⟨k9, rfl⟩ := wsD_inv hx
    exact d3 k k9))
  have hO1 : va_P (gD g) vwCl (outW g ou v) t.heap := hO.kept fun k x hx => hk x.1 (hO k x hx).lt (hno _ (hO k x hx).lt (by
    match k, hx with
    | 0, hx => cases hx; exact d5
    | k + 1, hx => simp [outW] at hx))
  obtain ⟨t2, a1, b1⟩ := kk T'.heap (by rw [e1]; exact ⟨hP1, hp, hO1⟩)
    ⟨Nat.le_trans hS.1 (by rw [e1]; exact hz), fun q h1 h2 => by rw [e1, hk q (Nat.lt_of_lt_of_le h1 hS.1) (fun z => h2 (hin q z))]; exact hS.2.1 q h1 h2, fun _ hq => nomatch hq⟩ T' rfl (Stand.forget X' (fun q hq => hin _ (hL q hq)))
  exact ⟨t2, st t2 a1, b1⟩
end LAW2
set_option maxHeartbeats 4000000 in
set_option maxRecDepth 100000 in
theorem law_digest {p : Program} {e : Env} {s : State} {m : MethodId} {below : List Frame} {meth : Method} {c : Code} {Q : State → Prop} (l : Launch) (hlt : l.stackTraces = false) (g : gT) {b L : Nat} {xs : Nat → Int32} {AD : Nat → Nat} {h : Nat} {X : Nat → Nat} {ou : Nat} (hx : p.tables.exec = Jvm.exec) (hb : c.code = cL_law) (hml : c.maxLocals = 9) (hts : ∀ w ∈ wsL_law, w.before #[Value.ref b] s = true) (hown : s.vm.findClass RL = some m.cls) (hK : KK g s) (hZ : ZZ s s.heap) (hX : va_X b L xs s s.heap) (hbl : b < s.heap.size) (hL : L ≤ 2048) (hD : LD g (hiA s) AD h X ou)
    {LL : Nat → ltT} {EE : Nat → evT} {LN : Nat → Nat} {lc ec : Nat} {V : Nat → Nat → Int32} {th : Int32} {v : Int64} {H : Heap} {cells slots i : Nat} {ls : Array Slot} (I : Inv LL EE LN lc ec V) (hW : LW g AD LL EE lc ec h X V th ou v H) (hS : va_S (hiA s) s.heap H []) (hi : i + 4 ≤ L) (hcl : cells + 36 ≤ room_1.cells) (hsl : slots + 264 ≤ room_1.slots) (hl : lv_has ls 9 [(4, .int (nI i)), (3, .ref ou), (2, .ref h), (1, .ref (AD 0)), (0, .ref b)])
    (kk : ∀ (LL : Nat → ltT) (EE : Nat → evT) (LN : Nat → Nat) (lc ec : Nat) (V : Nat → Nat → Int32) (th : Int32) (v : Int64) (H : Heap) (ls : Array Slot), Inv LL EE LN lc ec V → LW g AD LL EE lc ec h X V th ou v H → va_S (hiA s) s.heap H [] → lv_has ls 9 [(4, .int (nI i)), (3, .ref ou), (2, .ref h), (1, .ref (AD 0)), (0, .ref b)] → W p l e room_1 s m #[Value.ref b] below meth c H [] (cells + 36) (slots + 264) Q (F0 m 2038 ls [])) : W p l e room_1 s m #[Value.ref b] below meth c H [] cells slots Q (F0 m 2024 ls []) := by
  have S : CallFix p m c cL_law 9 s #[Value.ref b] wsL_law RL := ⟨hx, hb, hml, hown, hts⟩
  obtain ⟨hlc, hec, hLL, -, hC, hE⟩ := id I
  refine lv_aload_n hx hb dL_law_2024 rfl (lv_at hl 3 rfl) ?_
  refine lw_D (As := []) (rest := []) S (c_X2_digest l g AD LL EE LN lc ec hlc hec hLL I.hEE) (cwV 0 hts gL_law_X2_digest rfl rfl rfl (by decide +kernel) ⟨Nat.le_of_ble_eq_true rfl, Nat.le_of_ble_eq_true rfl⟩) hK (va_recv hK.1 hW.1 (ci := 2) (q0 := 0) rfl dk_me) hD hW hS rfl hl.1 rfl (Nat.le_of_ble_eq_true rfl) dL_law_2025 ⟨by show _ ≤ room_1.cells; omega, by show _ ≤ room_1.slots; omega⟩ (fun H hW hS => ?_) ⟨rfl, rfl⟩
  obtain ⟨⟨hP, hPm, hO⟩, -⟩ := hW
  refine lv_aload_n hx hb dL_law_2028 rfl (lv_at hl 2 rfl) ?_
  refine lw_G (As := []) (rest := [_]) S (c_X3_digest l g h X V th lc ec (fun i => (LL i).2.2) hlc hec I.hNN LN (fun q => (EE q).2.2.1) I.hEN H.size) (cwV 0 hts gL_law_X3_digest rfl rfl rfl (by decide +kernel) ⟨Nat.le_of_ble_eq_true rfl, Nat.le_of_ble_eq_true rfl⟩) hK (va_recv hK.1 hPm (ci := 3) (q0 := 0) rfl rfl) hD hP hPm hO hS rfl hl.1 rfl (Nat.le_of_ble_eq_true rfl) dL_law_2029 ⟨by show _ ≤ room_1.cells; omega, by show _ ≤ room_1.slots; omega⟩ (fun H hW hS => ?_)
  refine lv_toJ (dj_eq I).symm ?_
  refine W.lcmp hx hb dL_law_2032 ?_
  refine lv_toI (z := 0) (cmp_eq _) ?_
  refine lv_if_eq (tgt := 2038) hx hb dL_law_2033 (by decide) (fun _ => ?_) (fun z => absurd rfl z)
  exact kk _ _ _ _ _ _ _ _ _ _ (I.same (fun i => ⟨dgL_1 LL lc i, dgL_n LL lc i⟩)) hW hS hl
