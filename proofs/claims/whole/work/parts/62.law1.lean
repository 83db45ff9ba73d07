/-! THE LAW'S LAYER: the three worlds together; calls of the law's own methods and of the reference -/
def LW (g : gT) (AD : Nat → Nat) (LL : Nat → ltT) (EE : Nat → evT) (lc ec h : Nat) (X : Nat → Nat) (V : Nat → Nat → Int32) (th : Int32) (ou : Nat) (v : Int64) (H : Heap) : Prop := va_P (gD g) vwCl (wsD g AD LL EE lc ec) H ∧ va_P (gD g) vwCl (mdW g h X V th lc ec) H ∧ va_P (gD g) vwCl (outW g ou v) H
def mdA (h : Nat) (X : Nat → Nat) (q : Nat) : Prop := q = h ∨ ∃ j, j < 9 ∧ q = X j
def LD (g : gT) (A : Nat → Prop) (AD : Nat → Nat) (h : Nat) (X : Nat → Nat) (ou : Nat) : Prop := (∀ LL EE lc ec, va_D A (wsD g AD LL EE lc ec)) ∧ (∀ V th lc ec, va_D A (mdW g h X V th lc ec)) ∧ (∀ k, k < 87 → ¬ mdA h X (AD k)) ∧ (∀ k, k < 87 → ¬ AD k = ou) ∧ ¬ mdA h X ou ∧ A ou
theorem wA_md {g : gT} {h : Nat} {X : Nat → Nat} {V : Nat → Nat → Int32} {th : Int32} {lc ec q : Nat} (hq : wA (mdW g h X V th lc ec) q) : mdA h X q := by
  obtain ⟨k, e, hk⟩ := hq
  match k, hk with
  | 0, hk => cases hk; exact Or.inl rfl
  | 1, hk => cases hk; exact Or.inr ⟨0, by decide, rfl⟩
  | 2, hk => cases hk; exact Or.inr ⟨1, by decide, rfl⟩
  | 3, hk => cases hk; exact Or.inr ⟨2, by decide, rfl⟩
  | 4, hk => cases hk; exact Or.inr ⟨3, by decide, rfl⟩
  | 5, hk => cases hk; exact Or.inr ⟨4, by decide, rfl⟩
  | 6, hk => cases hk; exact Or.inr ⟨5, by decide, rfl⟩
  | 7, hk => cases hk; exact Or.inr ⟨6, by decide, rfl⟩
  | 8, hk => cases hk; exact Or.inr ⟨7, by decide, rfl⟩
  | 9, hk => cases hk; exact Or.inr ⟨8, by decide, rfl⟩
  | k + 10, hk => simp at hk
theorem wA_ds {g : gT} {AD : Nat → Nat} {LL : Nat → ltT} {EE : Nat → evT} {lc ec q : Nat} (hq : wA (wsD g AD LL EE lc ec) q) : ∃ k, k < 87 ∧ q = AD k := by
  obtain ⟨k, e, hk⟩ := hq
  obtain ⟨h1, h2⟩ := wsD_inv hk
  exact ⟨k, h1, by cases h2; rfl⟩
theorem md_of {g : gT} {h : Nat} {X : Nat → Nat} {V : Nat → Nat → Int32} {th : Int32} {lc ec k : Nat} {x : Nat × va_E} (hk : (mdW g h X V th lc ec)[k]? = some x) : mdA h X x.1 := wA_md ⟨k, x.2, hk⟩
section LAW1
variable {p : Program} {l : Launch} {e : Env} {R : Room} {s : State} {m : MethodId} {args : Array Value} {below : List Frame} {meth : Method} {c : Code} {H : Heap} {locs : List Loc} {cells slots : Nat} {Q : State → Prop}
variable {pc : Nat} {ls : Array Slot} {rest st0 : List Value} {cc : ByteArray}
variable {g : gT} {AD : Nat → Nat} {LL LL' : Nat → ltT} {EE EE' : Nat → evT} {lc ec lc' ec' h : Nat} {X : Nat → Nat} {V V' : Nat → Nat → Int32} {th th' : Int32} {ou : Nat} {v v' : Int64}
variable {y : MethodName} {bytes : ByteArray} {maxL nL n index : Nat} {ret : Option FieldType} {ws : List Cond} {rm : Room} {Ts : List Cond} {own C : String} {b : Addr} {As : List Value} {hh : List (Nat × Nat × Nat × Nat)} {code : Int32}
abbrev hiA (s : State) : Nat → Prop := fun q => s.heap.size ≤ q
theorem ZZ_at (hZ : ZZ s s.heap) (hS : va_S (hiA s) s.heap H locs) : ZZ s H := by
  have hk : ∀ a : Nat, a < s.heap.size → ¬ (fun _ : Nat => False) a → H[a]? = s.heap[a]? := fun a ha _ => hS.2.1 a ha (Nat.not_le.mpr ha)
  exact ⟨vx_Zq.kept hZ.1 hk, vx_Zq.kept hZ.2 hk⟩
/-- a call of one of the law's own methods -/
theorem lw_W (S : CallFix p m c cc nL s args Ts own) (hM : lM g l y ws rm As (wsD g AD LL EE lc ec) ou v code (wsD g AD LL' EE' lc' ec') v') (cw : vx_CSW R s args own index y bytes maxL ret hh ws rm 1 6 n) (hK : KK g s) (hZ : ZZ s s.heap) (hD : LD g (hiA s) AD h X ou) (hW : LW g AD LL EE lc ec h X V th ou v H) (hS : va_S (hiA s) s.heap H []) (hn : As.length = n) (hsize : ls.size = nL) (hst : st0 = As.reverse ++ rest) (hWr : (rest.map fun v => v.category).sum ≤ 8) (hdg : decode cc pc = .ok (.invokestatic index, 3)) (hf : cells + 1 ≤ R.cells ∧ slots + 6 ≤ R.slots)
    (kk : ∀ H1 : Heap, va_P (gD g) vwCl (wsD g AD LL' EE' lc' ec') H1 → va_P (gD g) vwCl (mdW g h X V th lc ec) H1 → va_P (gD g) vwCl (outW g ou v') H1 → va_S (hiA s) s.heap H1 [] → W p l e R s m args below meth c H1 [] (cells + 1) (slots + 6) Q (F0 m (pc + 3) ls (.int code :: rest))) : W p l e R s m args below meth c H [] cells slots Q (F0 m pc ls st0) := by
  obtain ⟨hP, hPm, hO⟩ := hW
  obtain ⟨d1, d2, d3, d4, d5, d6⟩ := hD
  have hNo : ¬ wA (wsD g AD LL EE lc ec) ou := fun z => by
    obtain ⟨k, hk, e⟩ := wA_ds z
    exact d4 k hk e.symm
  have hr := vx_runSW (e := e) (below := below) (meth := meth) (g := F0 m pc ls st0) (rest := rest) (H := H) (locs := []) (cells := cells) (slots := slots) S hM cw ⟨lPc_blind, fun U hU hWm => ⟨rfl, hK.warm hWm, by rw [hU]; exact (ZZ_at hZ hS).moved hWm.alike, by rw [hU]; exact hP, by rw [hU]; exact hO, (d1 LL EE lc ec).weaken (fun _ _ _ _ => trivial), hNo⟩⟩ rfl hn hsize hst (lv_room hWr) hdg hf
  intro T hT X9
  obtain ⟨v9, st₀, t, T', L, h0, X', hL, e1, e2, ⟨hv, hp, ho, hz, hk⟩, st⟩ := hr T hT X9
  cases hv
  rw [h0] at hz hk
  have hin : ∀ q, lA (wsD g AD LL EE lc ec) ou q → s.heap.size ≤ q := fun q hq => hq.elim (fun z => wA_of (d1 LL EE lc ec) q z) (fun z => z ▸ d6)
  have hPm1 : va_P (gD g) vwCl (mdW g h X V th lc ec) t.heap := hPm.kept fun k x hx => hk x.1 (hPm k x hx).lt (fun hq => by
    have hm := md_of hx
    rcases hq with hq | hq
    · obtain ⟨k2, hk2, e9⟩ := wA_ds hq
      exact d3 k2 hk2 (e9 ▸ hm)
    · exact d5 (hq ▸ hm))
  obtain ⟨t2, a1, b1⟩ := kk T'.heap (by rw [e1]; exact hp) (by rw [e1]; exact hPm1) (by rw [e1]; exact ho)
    ⟨Nat.le_trans hS.1 (by rw [e1]; exact hz), fun q h1 h2 => by rw [e1, hk q (Nat.lt_of_lt_of_le h1 hS.1) (fun z => h2 (hin q z))]; exact hS.2.1 q h1 h2, fun _ hq => nomatch hq⟩ T' rfl (Stand.forget X' (fun q hq => hin _ (hL q hq)))
  exact ⟨t2, st t2 a1, b1⟩
/-- a call of the reference that writes its own world -/
theorem lw_M {r : Value} (S : CallFix p m c cc nL s args Ts own) (hM : wM g l y ws rm (.ref b :: As) (mdW g h X V th lc ec) (some r) (mdW g h X V' th' lc' ec')) (cw : CallW R s args own C index y bytes maxL ret ws rm 0 0 n) (hK : KK g s) (hrec : ∃ cellB : Cell, H[b]? = some cellB ∧ cellB.vm.isStatics = false ∧ s.vm.findClass C = some cellB.cls) (hD : LD g (hiA s) AD h X ou) (hP : va_P (gD g) vwCl (wsD g AD LL' EE' lc' ec') H) (hPm : va_P (gD g) vwCl (mdW g h X V th lc ec) H) (hO : va_P (gD g) vwCl (outW g ou v) H) (hS : va_S (hiA s) s.heap H []) (hn : As.length = n) (hsize : ls.size = nL) (hst : st0 = As.reverse ++ .ref b :: rest) (hWr : (rest.map fun v => v.category).sum ≤ 8) (hdg : decode cc pc = .ok (.invokevirtual index, 3)) (hf : cells + 0 ≤ R.cells ∧ slots + 0 ≤ R.slots)
    (kk : ∀ H1 : Heap, LW g AD LL' EE' lc' ec' h X V' th' ou v H1 → va_S (hiA s) s.heap H1 [] → W p l e R s m args below meth c H1 [] cells slots Q (F0 m (pc + 3) ls (r :: rest))) : W p l e R s m args below meth c H [] cells slots Q (F0 m pc ls st0) := by
  obtain ⟨d1, d2, d3, d4, d5, d6⟩ := hD
  refine w_V S hM cw hK hrec hPm ((d2 V th lc ec).weaken (fun _ _ _ _ => trivial)) hS (fun q hq => wA_of (d2 V th lc ec) q hq) hn hsize hst hWr hdg hf (fun H1 locs1 hP1 hz1 hk1 hS1 => ?_)
  refine va_forget (fun q hq => hS1.2.2 q hq) (kk H1 ⟨hP.kept fun k x hx => hk1 x.1 (hP k x hx).lt (fun z => ?_), hP1, out_kept hO hk1 (fun z => d5 (wA_md z))⟩ ⟨hS1.1, hS1.2.1, fun _ hq => nomatch hq⟩)
  obtain ⟨k9, rfl⟩ := wsD_inv hx
  exact d3 k k9 (wA_md z)
/-- a call of the desk or the reference that only reads -/
theorem lw_gets (hexec : p.tables.exec = Jvm.exec) (hb : c.code = cc) (hK : KK g s) (hO : va_P (gD g) vwCl (outW g ou v) H) (hdg : decode cc pc = .ok (.laload, 1)) (kk : W p l e R s m args below meth c H locs cells slots Q (F0 m (pc + 1) ls (.long v :: rest))) : W p l e R s m args below meth c H locs cells slots Q (F0 m pc ls (.int 0 :: .ref ou :: rest)) := by
  refine va_lald (n := 1) (f := fun _ => v) hexec hb hK.1 hO 0 3 rfl rfl ?_ hdg kk
  show ¬ ((0 : Int32) < 0 ∨ 1 ≤ (0 : Int32).toNatClampNeg)
  decide +kernel
end LAW1
