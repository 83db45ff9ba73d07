theorem fr_in {A : Nat → Prop} {q : Nat} {E : va_E} {H0 H : Heap} {locs : List Loc} (hq : A q) (hS : va_S A H0 H locs) (hA : ∀ x, H0.size ≤ x → A x) : ∀ x, va_A [(q, E)] H.size x → A x := by
  rintro x (⟨k, e, hk⟩ | h)
  · match k, hk with
    | 0, hk => cases hk; exact hq
    | k + 1, hk => simp at hk
  · exact hA x (Nat.le_trans hS.1 h)
/-- behind a constructor's call: the old cells, and what it made -/
theorem mk_join {g : gT} {A : Nat → Prop} {ws w1 : va_W} {q : Nat} {E : va_E} {H H1 : Heap} (hP : va_P (gD g) vwCl (ws ++ [(q, E)]) H) (hD : va_D A (ws ++ [(q, E)])) (hk : ∀ x : Nat, x < H.size → ¬ va_A [(q, E)] H.size x → H1[x]? = H[x]?) (hin : ∀ x, va_A [(q, E)] H.size x → A x) (hP1 : va_P (gD g) vwCl w1 H1) (hD1 : va_D (va_A [(q, E)] H.size) w1) : va_P (gD g) vwCl (ws ++ w1) H1 ∧ va_D A (ws ++ w1) := by
  have old : ∀ (k : Nat) (x : Nat × va_E), ws[k]? = some x → (ws ++ [(q, E)])[k]? = some x := fun k x hx => by
    rw [List.getElem?_append_left (List.getElem?_eq_some_iff.mp hx).1]
    exact hx
  have hlast : (ws ++ [(q, E)])[ws.length]? = some (q, E) := by simp
  have apart : ∀ (k : Nat) (x : Nat × va_E), ws[k]? = some x → ¬ va_A [(q, E)] H.size x.1 := by
    rintro k x hx (⟨j, e, hj⟩ | h)
    · match j, hj with
      | 0, hj =>
        have e1 : x.1 = q := by cases hj; rfl
        have := hD.1 k ws.length x (q, E) (old k x hx) hlast e1
        have h2 := (List.getElem?_eq_some_iff.mp hx).1
        omega
      | j + 1, hj => simp at hj
    · have := (hP k x (old k x hx)).lt
      omega
  have hPo : va_P (gD g) vwCl ws H1 := fun k x hx => (hP k x (old k x hx)).kept (hk x.1 (hP k x (old k x hx)).lt (apart k x hx))
  refine ⟨va_P.app hPo hP1, va_D.app ⟨fun i j a b ha hb e => hD.1 i j a b (old i a ha) (old j b hb) e, fun k x hx => hD.2 k x (old k x hx)⟩ ⟨hD1.1, fun k x hx => hin _ (hD1.2 k x hx)⟩ fun i j a b ha hb e => ?_⟩
  exact apart i a ha (by rw [e]; exact hD1.2 j b hb)
theorem ip_blind {g : gT} {av : List Value} {sz : Nat} {ws : va_W} : FrameBlind (va_Pc av (fun U => U.heap.size = sz ∧ KK g U ∧ va_P (gD g) vwCl ws U.heap)) := fun a U f mk h => ⟨h.1, h.2.1, h.2.2.1.calling, h.2.2.2⟩
set_option maxHeartbeats 4000000 in
set_option maxRecDepth 100000 in
/-- LetterSeals() -/
theorem c_X2_init (l : Launch) (g : gT) (h sz : Nat) : Met l yX2_init wsX2_init { frames := 2, cells := 86, slots := 1416, locals := 32 } (va_Pc [.ref h] (fun U => U.heap.size = sz ∧ KK g U ∧ va_P (gD g) vwCl [(h, .inr (2, [.null, .null, .int 0, .int 0]))] U.heap ∧ va_AO RX1 U ∧ va_AO RX0 U)) (va_Qv (fun _ : Nat → Nat => True) (fun u t => u 0 = h ∧ va_P (gD g) vwCl (wsD g u L0 E0 0 0) t.heap ∧ va_D (va_A [(h, .inr (2, [.null, .null, .int 0, .int 0]))] sz) (wsD g u L0 E0 0 0)) (va_A [(h, .inr (2, [.null, .null, .int 0, .int 0]))] sz)) 86 1416 (va_A [(h, .inr (2, [.null, .null, .int 0, .int 0]))] sz) := by
  refine Met.ofW (cc := cX2_init) (maxL := 2) (ret := none) (by decide) rfl ?_
  intro p e s m args below meth c s₁ B hml hv
  obtain ⟨rfl, hsz, hK, hP, hO1, hO0⟩ := hv
  have hx := B.exec
  have hb := B.bytes
  have hr := B.returns
  have hlocks := B.notSynchronized
  have hin : meth.name = "<init>" := (name_of_methodNamed B.named B.method).1
  have hts := atoms_spec (ws := wsX2_init) B.pre
  have hown : s.vm.findClass RX2 = some m.cls := findClass_of_methodNamed B.named
  subst hsz
  have hD : va_D (va_A [(h, .inr (2, [.null, .null, .int 0, .int 0]))] s.heap.size) [(h, .inr (2, [.null, .null, .int 0, .int 0]))] := D_one (Or.inl ⟨0, _, rfl⟩)
  generalize hAe : va_A [(h, .inr (2, [.null, .null, .int 0, .int 0]))] s.heap.size = A at hD ⊢
  have hA : ∀ q : Nat, s.heap.size ≤ q → A q := fun q h => by rw [← hAe]; exact Or.inr h
  have hS : va_S A s.heap s.heap [] := va_S.rf
  have hl := lv_entry ([.ref h]) (n := 2) (Nat.le_of_ble_eq_true rfl)
  rw [lg_entry_eq]
  generalize (lg_sl ([.ref h]) ++ List.replicate (2 - (lg_sl ([.ref h])).length) Slot.unset).toArray = ls at hl ⊢
  have hl : lv_has ls 2 [(0, .ref h)] := hl
  have S : CallFix p m c cX2_init 2 s #[Value.ref h] wsX2_init RX2 := ⟨hx, hb, hml, hown, hts⟩
  have iX0 : ∀ w ∈ u_ws RX0 TX0 8, w ∈ wsX2_init := by decide +kernel
  have iX1 : ∀ w ∈ u_ws RX1 TX1 3, w ∈ wsX2_init := by decide +kernel
  have iX2 : ∀ w ∈ u_ws RX2 TX2 4, w ∈ wsX2_init := by decide +kernel
  have f11 := hts (.fieldLink RX2 11 "LetterSeals" "letterRow" "[LLetterSeals$Letter;") (by decide +kernel)
  have f17 := hts (.fieldLink RX2 17 "LetterSeals" "envelopeRow" "[LLetterSeals$Envelope;") (by decide +kernel)
  have k9 := hts (.classLink RX2 9 RX1) (by decide +kernel)
  have k15 := hts (.classLink RX2 15 RX0) (by decide +kernel)
  refine lv_aload_n hx hb dX2_init_0 rfl (lv_at hl 0 rfl) ?_
  refine W.objInit hx hb hown (hts (.methodLink RX2 3 objectInit) (by decide +kernel)) (hts (.instanceMethod objectInit) (by decide +kernel)) (hts _ (List.mem_cons_of_mem _ ((List.mem_of_getElem? (i := 2) rfl)))) rfl (by rw [hml]; exact hl.1) rfl dX2_init_1 (Nat.le_of_ble_eq_true rfl) (Nat.le_of_ble_eq_true rfl) ?_
  refine W.eq (g2 := F0 m 4 ls []) rfl ?_
  refine lv_aload_n hx hb dX2_init_4 rfl (lv_at hl 0 rfl) ?_
  refine lv_bipush (v := nI 12) hx hb dX2_init_5 (by decide +kernel) ?_
  refine va_newq (C := RX1) (N' := 12) (n := nI 12) hx hb hown k9 hO1 hK.1 hP hD hS hA (nI_pos (by decide)) (nI_clamp (by decide)) (by decide) (Nat.le_of_ble_eq_true rfl) (Nat.le_of_ble_eq_true rfl) dX2_init_7 (fun q1 cA1 H hK1 hP hD hS => ?_)
  have e1 : cA1 = gL g := rq_eq (hK1.2 5 _ rfl).2 (hK.1.2 1 _ rfl).2
  subst e1
  have hP : va_P (gD g) vwCl [(h, .inr (2, [.null, .null, .int 0, .int 0])), (q1, .inl (gL g, 12, .inr (.inr (.inr (.inr (fun _ => none))))))] H := hP
  have hD : va_D A [(h, .inr (2, [.null, .null, .int 0, .int 0])), (q1, .inl (gL g, 12, .inr (.inr (.inr (.inr (fun _ => none))))))] := hD
  refine va_putF (D := gD g) (ci := 2) (v := .ref q1) (ty := .array (.object RX1)) (C := RX2) (T := TX2) (N := 4) hx hb hts iX2 tyX2 tyX2_ok nmX2 hown hK.1 hP hD hS 0 rfl rfl 0 (by decide) f11 (fun _ h9 => h9) rfl hin rfl (by decide +kernel) rfl rfl (Nat.le_of_ble_eq_true rfl) dX2_init_10 (fun H locs hP hD hS => ?_)
  have hP : va_P (gD g) vwCl [(h, .inr (2, [.ref q1, .null, .int 0, .int 0])), (q1, .inl (gL g, 12, .inr (.inr (.inr (.inr (fun _ => none))))))] H := hP
  have hD : va_D A [(h, .inr (2, [.ref q1, .null, .int 0, .int 0])), (q1, .inl (gL g, 12, .inr (.inr (.inr (.inr (fun _ => none))))))] := hD
  refine lv_aload_n hx hb dX2_init_13 rfl (lv_at hl 0 rfl) ?_
  refine lv_bipush (v := nI 24) hx hb dX2_init_14 (by decide +kernel) ?_
  refine va_newq (C := RX0) (N' := 24) (n := nI 24) hx hb hown k15 hO0 hK.1 hP hD hS hA (nI_pos (by decide)) (nI_clamp (by decide)) (by decide) (Nat.le_of_ble_eq_true rfl) (Nat.le_of_ble_eq_true rfl) dX2_init_16 (fun q2 cA2 H hK2 hP hD hS => ?_)
  have e2 : cA2 = gE g := rq_eq (hK2.2 5 _ rfl).2 (hK.1.2 2 _ rfl).2
  subst e2
  have hP : va_P (gD g) vwCl [(h, .inr (2, [.ref q1, .null, .int 0, .int 0])), (q1, .inl (gL g, 12, .inr (.inr (.inr (.inr (fun _ => none)))))), (q2, .inl (gE g, 24, .inr (.inr (.inr (.inr (fun _ => none))))))] H := hP
  have hD : va_D A [(h, .inr (2, [.ref q1, .null, .int 0, .int 0])), (q1, .inl (gL g, 12, .inr (.inr (.inr (.inr (fun _ => none)))))), (q2, .inl (gE g, 24, .inr (.inr (.inr (.inr (fun _ => none))))))] := hD
  refine va_putF (D := gD g) (ci := 2) (v := .ref q2) (ty := .array (.object RX0)) (C := RX2) (T := TX2) (N := 4) hx hb hts iX2 tyX2 tyX2_ok nmX2 hown hK.1 hP hD hS 0 rfl rfl 1 (by decide) f17 (fun _ h9 => h9) rfl hin rfl (by decide +kernel) rfl rfl (Nat.le_of_ble_eq_true rfl) dX2_init_19 (fun H locs hP hD hS => ?_)
  obtain ⟨AD, eAD⟩ : ∃ AD : Nat → Nat, AD = fun k => if k = 0 then h else if k = 1 then q1 else q2 := ⟨_, rfl⟩
  have hw : [(h, .inr (2, [.ref q1, .ref q2, .int 0, .int 0])), (q1, .inl (gL g, 12, .inr (.inr (.inr (.inr (fun _ => none)))))), (q2, .inl (gE g, 24, .inr (.inr (.inr (.inr (fun _ => none))))))] = wsR g AD 3 (fun _ => none) (fun _ => none) := by rw [eAD]; rfl
  have hP : va_P (gD g) vwCl (wsR g AD 3 (fun _ => none) (fun _ => none)) H := by rw [← hw]; exact hP
  have hD : va_D A (wsR g AD 3 (fun _ => none) (fun _ => none)) := by rw [← hw]; exact hD
  have hA0 : AD 0 = h := by rw [eAD]; rfl
  clear hw
  refine lv_iconst (v := nI 0) hx hb dX2_init_22 (by decide +kernel) ?_
  refine lv_istore_n (lv' := [(1, .int (nI 0)), (0, .ref h)]) hx hb dX2_init_23 rfl hl (by decide) rfl (fun ls hl => ?_)
  -- the second loop
  have L51 : ∀ (k j : Nat) (AD : Nat → Nat) (r1 r2 : Nat → Option Nat) (H : Heap) (locs : List Loc) (ls : Array Slot), 24 - j < k → j ≤ 24 → AD 0 = h → (∀ x, x < 12 → r1 x = some (AD (3 + 3 * x))) → (∀ x, x < j → r2 x = some (AD (39 + 2 * x))) → va_P (gD g) vwCl (wsR g AD (39 + 2 * j) r1 r2) H → va_D A (wsR g AD (39 + 2 * j) r1 r2) → va_S A s.heap H locs → lv_has ls 2 [(1, .int (nI j)), (0, .ref h)] → W p l e (headSpec wsX2_init { frames := 2, cells := 86, slots := 1416, locals := 32 }).room s m #[Value.ref h] below meth c H locs (38 + 2 * j) (1032 + 16 * j) (MQ below (va_Qv (fun _ : Nat → Nat => True) (fun u t => u 0 = h ∧ va_P (gD g) vwCl (wsD g u L0 E0 0 0) t.heap ∧ va_D A (wsD g u L0 E0 0 0)) A) #[Value.ref h] s 86 1416 A) (F0 m 51 ls []) := by
    intro k
    induction k with
    | zero => intro j AD r1 r2 H locs ls hFu; exact absurd hFu (Nat.not_lt_zero _)
    | succ k ih =>
      intro j AD r1 r2 H locs ls hFu hLe hA0 hr1 hr2 hP hD hS hl
      refine lv_iload_n hx hb dX2_init_51 rfl (lv_at hl 0 rfl) ?_
      refine lv_bipush (v := nI 24) hx hb dX2_init_52 (by decide +kernel) ?_
      refine br_ge (a := j) (b := 24) (tgt := 76) hx hb (by omega) (by omega) dX2_init_54 (by decide) (fun c54 => ?_) (fun c54 => ?_)
      · obtain rfl : j = 24 := by omega
        exact W.vret hx hb hr (fun t ht hW => ⟨⟨AD, rfl, trivial, hA0, by rw [ht]; exact wsR_whole hP hr1 hr2, wsR_D hD⟩, hS.F ht⟩) hS.2.2 dX2_init_76
      · have w0 : (wsR g AD (39 + 2 * j) r1 r2)[0]? = some (h, .inr (2, [.ref (AD 1), .ref (AD 2), .int 0, .int 0])) := by rw [wsR_at (by omega), hA0]; rfl
        refine lv_aload_n hx hb dX2_init_57 rfl (lv_at hl 1 rfl) ?_
        refine va_get (D := gD g) (ci := 2) (v := .ref (AD 2)) (C := RX2) (T := TX2) (N := 4) hx hb hts iX2 hown hK.1 hP 0 w0 rfl 1 (by decide) f17 (fun _ h9 => h9) rfl dX2_init_58 ?_
        refine lv_iload_n hx hb dX2_init_61 rfl (lv_at hl 0 rfl) ?_
        refine va_new (D := gD g) (ci := 0) (fs := [.null, .int 0, .int 0, .int 0, .int 0, .int 0, .int 0, .int 0]) (C := RX0) (T := TX0) (N := 8) hx hb hts iX0 tyX0 tyX0_ok hown k15 (hts (.instantiable RX0 8) (by decide +kernel)) (hts (.initialized RX0) (by decide +kernel)) hK.1 hP hD hS hA rfl (fun x hx9 => match x, hx9 with | 0, _ => rfl | 1, _ => rfl | 2, _ => rfl | 3, _ => rfl | 4, _ => rfl | 5, _ => rfl | 6, _ => rfl | 7, _ => rfl) (by show _ ≤ 86; omega) (by show _ ≤ 1416; omega) dX2_init_62 (fun q H hP hD hS => ?_)
        refine lv_dup hx hb dX2_init_65 rfl ?_
        have hq : A q := hD.2 (39 + 2 * j) (q, _) (by rw [List.getElem?_append_right (by rw [wsR_len]; omega), wsR_len, Nat.sub_self]; rfl)
        refine va_callv (va_runIN (As := []) (rest := [.ref q, .int (nI j), .ref (AD 2)]) (g := F0 m 66 ls [.ref q, .ref q, .int (nI j), .ref (AD 2)]) S (c_X0_init l g q H.size) ⟨va_cnB 0 hts gX2_init_X0_init_n22 rfl rfl rfl (hK.2.2.1 ("LetterSeals", 22, yX0_init) (List.mem_of_getElem? (i := 1) rfl)) (hts (.initialized RX0) (by decide +kernel)) (by decide +kernel) ⟨Nat.le_of_ble_eq_true rfl, Nat.le_of_ble_eq_true rfl⟩, rfl, hts (.instanceMethod yX0_init) (by decide +kernel)⟩ ⟨ip_blind, fun U hU hWm => ⟨rfl, by rw [hU], hK.warm hWm, by rw [hU]; intro k9 x9 hx9; exact hP (39 + 2 * j + k9) x9 (by rw [List.getElem?_append_right (by rw [wsR_len]; omega), wsR_len, Nat.add_sub_cancel_left]; exact hx9)⟩⟩ rfl rfl hl.1 rfl (Nat.le_of_ble_eq_true rfl) dX2_init_66 ⟨by show _ ≤ 86; omega, by show _ ≤ 1416; omega⟩) hS (fun x _ h9 => fr_in hq hS hA x h9) (fun x h9 => fr_in hq hS hA x h9) (fun u t H1 locs1 ht _ _ hB hz1 hk1 hS1 => ?_)
        subst ht
        obtain ⟨hP1, hD1⟩ := hB
        obtain ⟨hP, hD⟩ := mk_join hP hD hk1 (fr_in hq hS hA) hP1 hD1
        have w2 : (wsR g AD (39 + 2 * j) r1 r2 ++ evW g q (u 0) 0 0 0 0 0 0 0 (fun _ => 0))[2]? = some (AD 2, .inl (gE g, 24, .inr (.inr (.inr (.inr r2))))) := by rw [List.getElem?_append_left (by rw [wsR_len]; omega), wsR_at (by omega)]; rfl
        have wk : (wsR g AD (39 + 2 * j) r1 r2 ++ evW g q (u 0) 0 0 0 0 0 0 0 (fun _ => 0))[39 + 2 * j]? = some (q, .inr (0, [.ref (u 0), .int 0, .int 0, .int (nI 0), .int (nI 0), .int 0, .int 0, .int 0])) := by rw [List.getElem?_append_right (by rw [wsR_len]; omega), wsR_len, Nat.sub_self]; rfl
        refine va_astq (D := gD g) (ci := 0) (r := (RX0, TX0, 8)) hx hb hK.1 hP hD hS1 2 2 (39 + 2 * j) w2 rfl wk rfl (vp_in_nI (by omega) (by decide)) dX2_init_69 (fun H locs hP hD hS => ?_)
        rw [nI_clamp (by omega), wsR_E rfl] at hP hD
        refine lv_iinc (v := nI (j + 1)) (lv' := [(1, .int (nI (j + 1))), (0, .ref h)]) hx hb dX2_init_70 hl (k := 0) rfl (nI_1 _) (by decide) rfl (fun ls hl => ?_)
        refine lv_goto (tgt := 51) hx hb dX2_init_73 (by decide) ?_
        rw [show 38 + 2 * j + 1 + 1 = 38 + 2 * (j + 1) by omega, show 1032 + 16 * j + 8 + 8 = 1032 + 16 * (j + 1) by omega]
        rw [show 39 + 2 * j + 2 = 39 + 2 * (j + 1) by omega] at hP hD
        refine ih (j + 1) _ r1 _ H locs ls (by omega) (by omega) ?_ ?_ ?_ hP hD hS (lv_sub hl [0, 1] rfl)
        · rw [apA_lt (by omega)]; exact hA0
        · intro x hx; rw [apA_lt (by omega)]; exact hr1 x hx
        · intro x hx
          by_cases hxj : x = j
          · subst hxj
            rw [va_up_self]
            exact congrArg some (apA_ge (AD := AD) (n := 39 + 2 * x) (fun k => if k = 0 then q else u (k - 1)) 0).symm
          · rw [va_up_ne _ _ hxj, apA_lt (by omega)]; exact hr2 x (by omega)
  have L24 : ∀ (k j : Nat) (AD : Nat → Nat) (r1 : Nat → Option Nat) (H : Heap) (locs : List Loc) (ls : Array Slot), 12 - j < k → j ≤ 12 → AD 0 = h → (∀ x, x < j → r1 x = some (AD (3 + 3 * x))) → va_P (gD g) vwCl (wsR g AD (3 + 3 * j) r1 (fun _ => none)) H → va_D A (wsR g AD (3 + 3 * j) r1 (fun _ => none)) → va_S A s.heap H locs → lv_has ls 2 [(1, .int (nI j)), (0, .ref h)] → W p l e (headSpec wsX2_init { frames := 2, cells := 86, slots := 1416, locals := 32 }).room s m #[Value.ref h] below meth c H locs (2 + 3 * j) (36 + 83 * j) (MQ below (va_Qv (fun _ : Nat → Nat => True) (fun u t => u 0 = h ∧ va_P (gD g) vwCl (wsD g u L0 E0 0 0) t.heap ∧ va_D A (wsD g u L0 E0 0 0)) A) #[Value.ref h] s 86 1416 A) (F0 m 24 ls []) := by
    intro k
    induction k with
    | zero => intro j AD r1 H locs ls hFu; exact absurd hFu (Nat.not_lt_zero _)
    | succ k ih =>
      intro j AD r1 H locs ls hFu hLe hA0 hr1 hP hD hS hl
      refine lv_iload_n hx hb dX2_init_24 rfl (lv_at hl 0 rfl) ?_
      refine lv_bipush (v := nI 12) hx hb dX2_init_25 (by decide +kernel) ?_
      refine br_ge (a := j) (b := 12) (tgt := 49) hx hb (by omega) (by omega) dX2_init_27 (by decide) (fun c27 => ?_) (fun c27 => ?_)
      · obtain rfl : j = 12 := by omega
        refine lv_iconst (v := nI 0) hx hb dX2_init_49 (by decide +kernel) ?_
        refine lv_istore_n (lv' := [(1, .int (nI 0)), (0, .ref h)]) hx hb dX2_init_50 rfl hl (by decide) rfl (fun ls hl => ?_)
        exact L51 25 0 AD r1 (fun _ => none) H locs ls (by omega) (by omega) hA0 hr1 (fun x hx => absurd hx (Nat.not_lt_zero x)) hP hD hS hl
      · have w0 : (wsR g AD (3 + 3 * j) r1 (fun _ => none))[0]? = some (h, .inr (2, [.ref (AD 1), .ref (AD 2), .int 0, .int 0])) := by rw [wsR_at (by omega), hA0]; rfl
        refine lv_aload_n hx hb dX2_init_30 rfl (lv_at hl 1 rfl) ?_
        refine va_get (D := gD g) (ci := 2) (v := .ref (AD 1)) (C := RX2) (T := TX2) (N := 4) hx hb hts iX2 hown hK.1 hP 0 w0 rfl 0 (by decide) f11 (fun _ h9 => h9) rfl dX2_init_31 ?_
        refine lv_iload_n hx hb dX2_init_34 rfl (lv_at hl 0 rfl) ?_
        refine va_new (D := gD g) (ci := 1) (fs := [.null, .null, .int 0]) (C := RX1) (T := TX1) (N := 3) hx hb hts iX1 tyX1 tyX1_ok hown k9 (hts (.instantiable RX1 3) (by decide +kernel)) (hts (.initialized RX1) (by decide +kernel)) hK.1 hP hD hS hA rfl (fun x hx9 => match x, hx9 with | 0, _ => rfl | 1, _ => rfl | 2, _ => rfl) (by show _ ≤ 86; omega) (by show _ ≤ 1416; omega) dX2_init_35 (fun q H hP hD hS => ?_)
        refine lv_dup hx hb dX2_init_38 rfl ?_
        have hq : A q := hD.2 (3 + 3 * j) (q, _) (by rw [List.getElem?_append_right (by rw [wsR_len]; omega), wsR_len, Nat.sub_self]; rfl)
        refine va_callv (va_runIN (As := []) (rest := [.ref q, .int (nI j), .ref (AD 1)]) (g := F0 m 39 ls [.ref q, .ref q, .int (nI j), .ref (AD 1)]) S (c_X1_init l g q H.size) ⟨va_cnB 0 hts gX2_init_X1_init_n21 rfl rfl rfl (hK.2.2.1 ("LetterSeals", 21, yX1_init) (List.mem_of_getElem? (i := 0) rfl)) (hts (.initialized RX1) (by decide +kernel)) (by decide +kernel) ⟨Nat.le_of_ble_eq_true rfl, Nat.le_of_ble_eq_true rfl⟩, rfl, hts (.instanceMethod yX1_init) (by decide +kernel)⟩ ⟨ip_blind, fun U hU hWm => ⟨rfl, by rw [hU], hK.warm hWm, by rw [hU]; intro k9 x9 hx9; exact hP (3 + 3 * j + k9) x9 (by rw [List.getElem?_append_right (by rw [wsR_len]; omega), wsR_len, Nat.add_sub_cancel_left]; exact hx9)⟩⟩ rfl rfl hl.1 rfl (Nat.le_of_ble_eq_true rfl) dX2_init_39 ⟨by show _ ≤ 86; omega, by show _ ≤ 1416; omega⟩) hS (fun x _ h9 => fr_in hq hS hA x h9) (fun x h9 => fr_in hq hS hA x h9) (fun u t H1 locs1 ht _ _ hB hz1 hk1 hS1 => ?_)
        subst ht
        obtain ⟨hP1, hD1⟩ := hB
        obtain ⟨hP, hD⟩ := mk_join hP hD hk1 (fr_in hq hS hA) hP1 hD1
        have w2 : (wsR g AD (3 + 3 * j) r1 (fun _ => none) ++ ltW g q (u 0) (u 1) (fun _ => 0) (fun _ => 0) 0)[1]? = some (AD 1, .inl (gL g, 12, .inr (.inr (.inr (.inr r1))))) := by rw [List.getElem?_append_left (by rw [wsR_len]; omega), wsR_at (by omega)]; rfl
        have wk : (wsR g AD (3 + 3 * j) r1 (fun _ => none) ++ ltW g q (u 0) (u 1) (fun _ => 0) (fun _ => 0) 0)[3 + 3 * j]? = some (q, .inr (1, [.ref (u 0), .ref (u 1), .int (nI 0)])) := by rw [List.getElem?_append_right (by rw [wsR_len]; omega), wsR_len, Nat.sub_self]; rfl
        refine va_astq (D := gD g) (ci := 1) (r := (RX1, TX1, 3)) hx hb hK.1 hP hD hS1 1 1 (3 + 3 * j) w2 rfl wk rfl (vp_in_nI (by omega) (by decide)) dX2_init_42 (fun H locs hP hD hS => ?_)
        rw [nI_clamp (by omega), wsR_L (by omega) rfl] at hP hD
        refine lv_iinc (v := nI (j + 1)) (lv' := [(1, .int (nI (j + 1))), (0, .ref h)]) hx hb dX2_init_43 hl (k := 0) rfl (nI_1 _) (by decide) rfl (fun ls hl => ?_)
        refine lv_goto (tgt := 24) hx hb dX2_init_46 (by decide) ?_
        rw [show 2 + 3 * j + 1 + 2 = 2 + 3 * (j + 1) by omega, show 36 + 83 * j + 3 + 80 = 36 + 83 * (j + 1) by omega]
        rw [show 3 + 3 * j + 3 = 3 + 3 * (j + 1) by omega] at hP hD
        refine ih (j + 1) _ _ H locs ls (by omega) (by omega) ?_ ?_ hP hD hS (lv_sub hl [0, 1] rfl)
        · rw [apA_lt (by omega)]; exact hA0
        · intro x hx
          by_cases hxj : x = j
          · subst hxj
            rw [va_up_self]
            exact congrArg some (apA_ge (AD := AD) (n := 3 + 3 * x) (fun k => if k = 0 then q else u (k - 1)) 0).symm
          · rw [va_up_ne _ _ hxj, apA_lt (by omega)]; exact hr1 x (by omega)
  exact L24 13 0 AD (fun _ => none) H locs ls (by omega) (by omega) hA0 (fun x hx => absurd hx (Nat.not_lt_zero x)) hP hD hS hl
