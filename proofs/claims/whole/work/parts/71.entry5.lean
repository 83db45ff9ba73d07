/-! THE LAW'S ENTRY, sixth: the walk -/
set_option maxHeartbeats 4000000 in
set_option maxRecDepth 100000 in
theorem law_entry {p : Program} {e : Env} {s : State} {m : MethodId} {below : List Frame} {meth : Method} {c : Code} {Q : State → Prop} (l : Launch) (hlt : l.stackTraces = false) (g : gT) {b L : Nat} {xs : Nat → Int32} (hx : p.tables.exec = Jvm.exec) (hb : c.code = cL_law) (hml : c.maxLocals = 9) (hts : ∀ w ∈ wsL_law, w.before #[Value.ref b] s = true) (hown : s.vm.findClass RL = some m.cls) (hK : KK g s) (hZ : ZZ s s.heap) (hX : va_X b L xs s s.heap) (hbl : b < s.heap.size) (hL : L ≤ 2048) (hO1 : va_AO RX1 s) (hO0 : va_AO RX0 s) {ls : Array Slot} (hl : lv_has ls 9 [(0, .ref b)])
    (kx : ∀ (H : Heap) (ls : Array Slot), W p l e room_1 s m #[Value.ref b] below meth c H [] room_1.cells room_1.slots Q (F0 m 2044 ls [])) : W p l e room_1 s m #[Value.ref b] below meth c s.heap [] 0 0 Q (F0 m 0 ls []) := by
  have S : CallFix p m c cL_law 9 s #[Value.ref b] wsL_law RL := ⟨hx, hb, hml, hown, hts⟩
  have hA : ∀ q : Nat, s.heap.size ≤ q → hiA s q := fun _ h => h
  have hS : va_S (hiA s) s.heap s.heap [] := va_S.rf
  have hP : va_P (gD g) vwCl [] s.heap := fun k q h => by simp at h
  have hD : va_D (hiA s) [] := ⟨fun i j p q h => by simp at h, fun k q h => by simp at h⟩
  refine va_new (D := gD g) (ci := 2) (fs := [.null, .null, .int 0, .int 0]) (C := RX2) (T := TX2) (N := 4) hx hb hts inlX2 tyX2 tyX2_ok hown (hts (.classLink RL 8 RX2) (by decide +kernel)) (hts (.instantiable RX2 4) (by decide +kernel)) (hts (.initialized RX2) (by decide +kernel)) hK.1 hP hD hS hA rfl (fun x hx9 => match x, hx9 with | 0, _ => rfl | 1, _ => rfl | 2, _ => rfl | 3, _ => rfl) (Nat.le_of_ble_eq_true rfl) (Nat.le_of_ble_eq_true rfl) dL_law_0 (fun q2 H hP hD hS => ?_)
  refine lv_dup hx hb dL_law_3 rfl ?_
  have hq : hiA s q2 := hD.2 0 (q2, _) rfl
  refine va_callv (va_runI (As := []) (rest := [.ref q2]) (g := F0 m 4 ls [.ref q2, .ref q2]) S (c_X2_init l g q2 H.size) (cwI 0 hts gL_law_X2_init rfl rfl rfl (hts (.initialized RX2) (by decide +kernel)) (hts (.methodLink RL 107 yX2_init) (by decide +kernel)) (hts (.instanceMethod yX2_init) (by decide +kernel)) rfl (by decide +kernel) ⟨Nat.le_of_ble_eq_true rfl, Nat.le_of_ble_eq_true rfl⟩) ⟨op_blind, fun U hU hWm => ⟨rfl, by rw [hU], hK.warm hWm, by rw [hU]; exact hP, va_AO.moved hWm.alike hO1, va_AO.moved hWm.alike hO0⟩⟩ rfl rfl hl.1 rfl (Nat.le_of_ble_eq_true rfl) dL_law_4 ⟨Nat.le_of_ble_eq_true rfl, Nat.le_of_ble_eq_true rfl⟩) hS (fun x _ h9 => fr_in hq hS hA x h9) (fun x h9 => fr_in hq hS hA x h9) (fun AD t H1 locs1 ht _ _ hB hz1 hk1 hS1 => ?_)
  subst ht
  obtain ⟨hA0, hP1, hD1⟩ := hB
  obtain ⟨hP, hD⟩ := mk_join (ws := []) hP hD hk1 (fr_in hq hS hA) hP1 hD1
  have hP : va_P (gD g) vwCl (wsD g AD L0 E0 0 0) t.heap := hP
  have hD : va_D (hiA s) (wsD g AD L0 E0 0 0) := hD
  refine va_forget (fun q hq => hS1.2.2 q hq) ?_
  have hS : va_S (hiA s) s.heap t.heap [] := ⟨hS1.1, hS1.2.1, fun _ hq => nomatch hq⟩
  refine lv_astore_n (lv' := [(1, .ref q2), (0, .ref b)]) hx hb dL_law_7 rfl hl (by decide) rfl (fun ls hl => ?_)
  refine va_new (D := gD g) (ci := 3) (fs := [.int 0, .int 0, .null, .null, .int 0, .null, .null, .null, .null, .null, .null, .null]) (C := RX3) (T := TX3) (N := 12) hx hb hts inlX3 tyX3 tyX3_ok hown (hts (.classLink RL 108 RX3) (by decide +kernel)) (hts (.instantiable RX3 12) (by decide +kernel)) (hts (.initialized RX3) (by decide +kernel)) hK.1 hP hD hS hA rfl (fun x hx9 => match x, hx9 with | 0, _ => rfl | 1, _ => rfl | 2, _ => rfl | 3, _ => rfl | 4, _ => rfl | 5, _ => rfl | 6, _ => rfl | 7, _ => rfl | 8, _ => rfl | 9, _ => rfl | 10, _ => rfl | 11, _ => rfl) (Nat.le_of_ble_eq_true rfl) (Nat.le_of_ble_eq_true rfl) dL_law_8 (fun q3 H hP hD hS => ?_)
  refine lv_dup hx hb dL_law_11 rfl ?_
  have len : (wsD g AD L0 E0 0 0).length = 87 := by unfold wsD; rw [List.length_map, List.length_range]
  have at3 : (wsD g AD L0 E0 0 0 ++ [(q3, (.inr (3, [.int 0, .int 0, .null, .null, .int 0, .null, .null, .null, .null, .null, .null, .null]) : va_E))])[87]? = some (q3, .inr (3, [.int 0, .int 0, .null, .null, .int 0, .null, .null, .null, .null, .null, .null, .null])) := by rw [List.getElem?_append_right (by rw [len]; exact Nat.le_refl 87), len]; rfl
  have hq3 : hiA s q3 := hD.2 87 _ at3
  refine va_callv (va_runI (As := []) (rest := [.ref q3]) (g := F0 m 12 ls [.ref q3, .ref q3]) S (c_X3_init l g q3 H.size) (cwI 0 hts gL_law_X3_init rfl rfl rfl (hts (.initialized RX3) (by decide +kernel)) (hts (.methodLink RL 110 yX3_init) (by decide +kernel)) (hts (.instanceMethod yX3_init) (by decide +kernel)) rfl (by decide +kernel) ⟨Nat.le_of_ble_eq_true rfl, Nat.le_of_ble_eq_true rfl⟩) ⟨ip_blind, fun U hU hWm => ⟨rfl, by rw [hU], hK.warm hWm, by rw [hU]; intro k9 x9 hx9; exact hP (87 + k9) x9 (by rw [List.getElem?_append_right (by rw [len]; omega), len, Nat.add_sub_cancel_left]; exact hx9)⟩⟩ rfl rfl hl.1 rfl (Nat.le_of_ble_eq_true rfl) dL_law_12 ⟨Nat.le_of_ble_eq_true rfl, Nat.le_of_ble_eq_true rfl⟩) hS (fun x _ h9 => fr_in hq3 hS hA x h9) (fun x h9 => fr_in hq3 hS hA x h9) (fun X t2 H2 locs2 ht2 _ _ hB hz1 hk1 hS1 => ?_)
  subst ht2
  obtain ⟨hP1, hD1⟩ := hB
  obtain ⟨hP, hD⟩ := mk_join hP hD hk1 (fr_in hq3 hS hA) hP1 hD1
  refine va_forget (fun q hq => hS1.2.2 q hq) ?_
  have hS : va_S (hiA s) s.heap t2.heap [] := ⟨hS1.1, hS1.2.1, fun _ hq => nomatch hq⟩
  refine lv_astore_n (lv' := [(2, .ref q3), (1, .ref q2), (0, .ref b)]) hx hb dL_law_15 rfl hl (by decide) rfl (fun ls hl => ?_)
  refine lv_iconst (v := nI 1) hx hb dL_law_16 (by decide +kernel) ?_
  refine va_newa (atype := .long) (ty := .long) (a0 := (1, .inr (.inl (fun _ => 0)))) (N' := 1) hx hb (hts (.arrayClass .long) (by decide +kernel)) rfl hK.1 hP hD hS hA (fun cA => rfl) (nI_pos (by decide)) (nI_clamp (by decide)) (by decide) (Nat.le_of_ble_eq_true rfl) (Nat.le_of_ble_eq_true rfl) dL_law_17 ?_
  intro ou cA H3 hK3 hP hD hS
  have e1 : cA = gJ g := rj_eq (hK3.2 4 (cA, .long) rfl).2 (hK.1.2 3 (gJ g, .long) rfl).2
  subst e1
  refine lv_astore_n (lv' := [(3, .ref ou), (2, .ref q3), (1, .ref q2), (0, .ref b)]) hx hb dL_law_19 rfl hl (by decide) rfl (fun ls hl => ?_)
  refine lv_iconst (v := nI 0) hx hb dL_law_20 (by decide +kernel) ?_
  refine lv_istore (lv' := [(4, .int (nI 0)), (3, .ref ou), (2, .ref q3), (1, .ref q2), (0, .ref b)]) hx hb dL_law_21 hl (by decide) rfl (fun ls hl => ?_)
  have pre : ∀ (w1 w2 : va_W), va_P (gD g) vwCl (w1 ++ w2) H3 → va_P (gD g) vwCl w1 H3 ∧ va_P (gD g) vwCl w2 H3 := fun w1 w2 h => ⟨fun k x hx => h k x (by rw [List.getElem?_append_left (List.getElem?_eq_some_iff.mp hx).1]; exact hx), fun k x hx => h (w1.length + k) x (by rw [List.getElem?_append_right (Nat.le_add_right _ _), Nat.add_sub_cancel_left]; exact hx)⟩
  obtain ⟨hPa, hPo⟩ := pre _ _ hP
  obtain ⟨hPd, hPm⟩ := pre _ _ hPa
  rw [← hA0] at hl
  exact law_loop l hlt g hx hb hml hts hown hK hZ hX hbl hL (LD_of (v := 0) hD) kx (L + 5) 0 L0 E0 (fun _ => 0) 0 0 (fun _ _ => 0) 0 0 H3 ls (by omega) (Nat.zero_le _) Inv_0 ⟨hPd, hPm, hPo⟩ hS hl
