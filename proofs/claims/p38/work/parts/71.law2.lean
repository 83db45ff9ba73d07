/-! THE LAW'S WALK: envelopes, letters, acts, times -/
theorem ac_nat (P : Nat → Bool) (t : Nat) : acF P 0 t = nI (ctN P t) := by
  have h := acF_ct P 0 t
  rw [nI_0, Nat.zero_add] at h
  exact h
theorem addl_eq {x y : Int32} (h : x + y = x) : y = 0 := by
  have e : y = (x + y) - x := by rw [Int32.add_comm, Int32.add_sub_cancel]
  rw [e, h, Int32.sub_self]
theorem add_subl (x y : Int32) : x + y - x = y := by rw [Int32.add_comm, Int32.add_sub_cancel]
theorem add_subr (x y : Int32) : x + (y - x) = y := by rw [Int32.add_comm, Int32.sub_add_cancel]

set_option maxHeartbeats 4000000 in
set_option maxRecDepth 100000 in
/-- an envelope: torn blocks, the changed sign -/
theorem law_857 {p : Program} {e : Env} {s : State} {m : MethodId} {below : List Frame} {meth : Method} {c : Code} {Q : State → Prop} (l : Launch) (hlt : l.stackTraces = false) (g : gT) {b L : Nat} {xs : Nat → Int32} {B so : Nat} {AD : Nat → Nat} (hx : p.tables.exec = Jvm.exec) (hb : c.code = cL_law) (hml : c.maxLocals = 18) (hts : ∀ w ∈ wsL_law, w.before #[Value.ref b] s = true) (hown : s.vm.findClass RL = some m.cls) (hK : KK g s) (hZ0 : ZB s.heap.size s s.heap) (hX0 : va_X b L xs s s.heap) (hL : L < 1000) (hJD : JD s.heap.size B AD)
    {LL : Nat → ltT} {EE : Nat → evT} {LN : Nat → Nat} {TT : Nat → (Nat → Int32) × Nat} {lc ec la ea : Nat} {ra xa ta : Nat → Nat} {H : Heap} {locs : List Loc} {C Z : Nat} (hC : C ≤ 100000) (hZ : Z ≤ 1000000) (hI : Iv LL EE LN TT lc ec) (hDk : va_P (gD g) vwCl (wsD g AD LL EE lc ec) H) (hW : SW g B so la ea ra xa ta LL EE TT lc ec H) (hS : va_S (bA s.heap.size) s.heap H locs)
    {t : Nat} {x : Int32} {D0 : Int64} {br : Int32} {q bk : Nat} (hq : q < ec) (hbk : bk = (max ((LL (LN q)).2.2) ((TT q).2) + 4) / 5)
    (kx : ∀ (H : Heap) (locs : List Loc) (ls : Array Slot), va_P (gD g) vwCl (wsD g AD LL EE lc ec) H → SW g B so la ea ra xa ta LL EE TT lc ec H → va_S (bA s.heap.size) s.heap H locs → lv_has ls 18 [(10, .int (nI (q))), (9, .int (br)), (8, .int ((EE q).2.2.2.2.2.2.1)), (7, .int (nI (lc))), (5, .long (D0)), (4, .int (x)), (3, .int (nI (t))), (2, .ref (so)), (1, .ref (AD 0)), (0, .ref (b))] → W p l e room_1 s m #[Value.ref b] below meth c H locs (C + 1) (Z + 40) Q (F0 m 1009 ls [])) (ls : Array Slot) (hl : lv_has ls 18 [(15, .int (fsF (toD LL EE LN q) 8 0)), (14, .int (nI (ctN (toD LL EE LN q) 8))), (13, .int (chD LL EE LN q)), (12, .int (nI (bk))), (11, .int (nI (LN q))), (10, .int (nI (q))), (9, .int (br)), (8, .int ((EE q).2.2.2.2.2.2.1)), (7, .int (nI (lc))), (5, .long (D0)), (4, .int (x)), (3, .int (nI (t))), (2, .ref (so)), (1, .ref (AD 0)), (0, .ref (b))]) : W p l e room_1 s m #[Value.ref b] below meth c H locs C Z Q (F0 m 857 ls []) := by
  have S : CallFix p m c cL_law 18 s #[Value.ref b] wsL_law RL := ⟨hx, hb, hml, hown, hts⟩
  have rC : 200000 ≤ room_1.cells := Nat.le_of_ble_eq_true rfl
  have rS : 2000000 ≤ room_1.slots := Nat.le_of_ble_eq_true rfl
  have hlc12 := hI.1
  have hec24 := hI.2.1
  have hBso : B ≤ so := hW.2.1.1
  have hB0B : s.heap.size ≤ B := hJD.2.2
  obtain ⟨⟨hE0, hLN, hE1, hE2, hE5⟩, ⟨hE6, hE3, hE4, hE7⟩, hE8⟩ := hI.2.2.2.2.2 q hq
  have hle := hI.le hLN
  have h8 := ct_le (toD LL EE LN q) 8
  have hhi : ∀ u, toD LL EE LN q u = true → u < bk := fun u hu => by rw [hbk]; exact to_hi hE5 hu
  have hch : chD LL EE LN q = -1 ∨ ∃ j, j < (LL (LN q)).2.2 ∧ chD LL EE LN q = nI j ∧ ftD LL EE LN q = false ∧ (LL (LN q)).2.2 = (EE q).2.2.1 ∧ (¬ (EE q).2.2.2.2.1 - smF (LL (LN q)).1 (LL (LN q)).2.2 = 0) ∧ ((EE q).2.2.2.2.1 - smF (LL (LN q)).1 (LL (LN q)).2.2) * nI (j + 1) = (EE q).2.2.2.2.2.1 - wtF (LL (LN q)).1 (LL (LN q)).2.2 := ch_sp
  have iX3 : ∀ w ∈ u_ws RX3 TX3 4, w ∈ wsL_law := by decide +kernel
  have iX4 : ∀ w ∈ u_ws RX4 TX4 2, w ∈ wsL_law := by decide +kernel
  have f9 := hts (.fieldLink RL 9 "LetterSealsLaw$Sim" "letters" "[[I") (by decide +kernel)
  have f68 := hts (.fieldLink RL 68 "LetterSealsLaw$Sim" "envelopes" "[LLetterSealsLaw$Envelope;") (by decide +kernel)
  have f159 := hts (.fieldLink RL 159 "LetterSealsLaw$Envelope" "then" "[I") (by decide +kernel)
  rcases fsF_sp (P := toD LL EE LN q) 8 0 with ⟨e15, hall⟩ | ⟨j1, hj0, hj1, e15, hyes, hall⟩
  · have hl : lv_has ls 18 [(15, .int ((-1))), (14, .int (nI (ctN (toD LL EE LN q) 8))), (13, .int (chD LL EE LN q)), (12, .int (nI (bk))), (11, .int (nI (LN q))), (10, .int (nI (q))), (9, .int (br)), (8, .int ((EE q).2.2.2.2.2.2.1)), (7, .int (nI (lc))), (5, .long (D0)), (4, .int (x)), (3, .int (nI (t))), (2, .ref (so)), (1, .ref (AD 0)), (0, .ref (b))] := by rw [e15] at hl; exact hl
    have h0 : ctN (toD LL EE LN q) 8 = 0 := ct_none 8 (fun u hu => hall u (Nat.zero_le u) (by omega))
    refine lv_iload hx hb dL_law_857 (lv_at hl 1 rfl) ?_
    refine br_lt0 (a := ctN (toD LL EE LN q) 8) (tgt := 914) hx hb (by omega) dL_law_859 (by decide) (fun c859 => ?_) (fun c859 => ?_)
    · exact c859.elim
    · refine lv_iload hx hb dL_law_862 (lv_at hl 1 rfl) ?_
      refine lv_iload hx hb dL_law_864 (lv_at hl 3 rfl) ?_
      refine br_gt (a := ctN (toD LL EE LN q) 8) (b := bk) (tgt := 914) hx hb (by omega) (by omega) dL_law_866 (by decide) (fun c866 => ?_) (fun c866 => ?_)
      · exact (by omega : False).elim
      · refine lv_iload hx hb dL_law_869 (lv_at hl 1 rfl) ?_
        refine br_ne0 (a := ctN (toD LL EE LN q) 8) (tgt := 878) hx hb (by omega) dL_law_871 (by decide) (fun c871 => ?_) (fun c871 => ?_)
        · exact (by omega : False).elim
        · refine lv_iconst (v := 1) hx hb dL_law_874 (by decide +kernel) ?_
          refine lv_goto (tgt := 879) hx hb dL_law_875 (by decide) ?_
          refine lv_iload hx hb dL_law_879 (lv_at hl 0 rfl) ?_
          refine lv_if_ge (tgt := 888) hx hb dL_law_881 (by decide) (fun c881 => ?_) (fun c881 => ?_)
          · exact absurd c881 (by decide +kernel)
          · refine lv_iconst (v := 1) hx hb dL_law_884 (by decide +kernel) ?_
            refine lv_goto (tgt := 889) hx hb dL_law_885 (by decide) ?_
            refine lv_icmp_ne (tgt := 914) hx hb dL_law_889 (by decide) (fun c889 => ?_) (fun c889 => ?_)
            · exact absurd rfl c889
            · refine lv_iload hx hb dL_law_892 (lv_at hl 0 rfl) ?_
              refine lv_iload hx hb dL_law_894 (lv_at hl 3 rfl) ?_
              refine lv_icmp_ge (tgt := 914) hx hb dL_law_896 (by decide) (fun c896 => ?_) (fun c896 => ?_)
              · exact absurd c896 (law_nle _ (by omega))
              · refine lv_iload hx hb dL_law_899 (lv_at hl 0 rfl) ?_
                refine lv_if_lt (tgt := 916) hx hb dL_law_901 (by decide) (fun c901 => ?_) (fun c901 => ?_)
                · rcases hch with e13 | ⟨j2, hj2, e13, hfit, hnn, hlo, hlw⟩
                  · have hl : lv_has ls 18 [(15, .int ((-1))), (14, .int (nI (ctN (toD LL EE LN q) 8))), (13, .int ((-1))), (12, .int (nI (bk))), (11, .int (nI (LN q))), (10, .int (nI (q))), (9, .int (br)), (8, .int ((EE q).2.2.2.2.2.2.1)), (7, .int (nI (lc))), (5, .long (D0)), (4, .int (x)), (3, .int (nI (t))), (2, .ref (so)), (1, .ref (AD 0)), (0, .ref (b))] := by rw [e13] at hl; exact hl
                    refine lv_iload hx hb dL_law_916 (lv_at hl 2 rfl) ?_
                    refine lv_if_ge (tgt := 924) hx hb dL_law_918 (by decide) (fun c918 => ?_) (fun c918 => ?_)
                    · exact absurd c918 (by decide +kernel)
                    · refine lv_goto (tgt := 1009) hx hb dL_law_921 (by decide) ?_
                      exact W.widen (by omega) (by omega) (kx H _ ls hDk hW hS (lv_sub hl [5, 6, 7, 8, 9, 10, 11, 12, 13, 14] rfl))
                  · have hl : lv_has ls 18 [(15, .int ((-1))), (14, .int (nI (ctN (toD LL EE LN q) 8))), (13, .int (nI (j2))), (12, .int (nI (bk))), (11, .int (nI (LN q))), (10, .int (nI (q))), (9, .int (br)), (8, .int ((EE q).2.2.2.2.2.2.1)), (7, .int (nI (lc))), (5, .long (D0)), (4, .int (x)), (3, .int (nI (t))), (2, .ref (so)), (1, .ref (AD 0)), (0, .ref (b))] := by rw [e13] at hl; exact hl
                    have hs9 : adF (upd (LL (LN q)).1 (j2) ((LL (LN q)).1 j2 + ((EE q).2.2.2.2.1 - smF (LL (LN q)).1 (LL (LN q)).2.2))) false (LL (LN q)).2.2 = adF (TT q).1 false (TT q).2 := by
                      show smF _ _ = smF _ _
                      rw [sm_upd, if_pos hj2, add_subl, add_subr, hE3]
                    have ht9 : adF (upd (LL (LN q)).1 (j2) ((LL (LN q)).1 j2 + ((EE q).2.2.2.2.1 - smF (LL (LN q)).1 (LL (LN q)).2.2))) true (LL (LN q)).2.2 = adF (TT q).1 true (TT q).2 := by
                      show wtF _ _ = wtF _ _
                      rw [wt_upd, if_pos hj2, add_subl, hlw, add_subr, hE4]
                    have hv9 : ¬ (LL (LN q)).1 j2 + ((EE q).2.2.2.2.1 - smF (LL (LN q)).1 (LL (LN q)).2.2) = (LL (LN q)).1 j2 := fun z => hlo (addl_eq z)
                    refine lv_iload hx hb dL_law_916 (lv_at hl 2 rfl) ?_
                    refine br_ge0 (a := j2) (tgt := 924) hx hb (by omega) dL_law_918 (by decide) (fun c918 => ?_) (fun c918 => ?_)
                    · refine lv_aload_n hx hb dL_law_924 rfl (lv_at hl 12 rfl) ?_
                      refine va_get (D := gD g) (ci := 4) (v := .ref (la)) (C := RX4) (T := TX4) (N := 2) hx hb hts iX4 hown hK.1 hW.1.1 0 rfl rfl 0 (by decide) f9 (fun _ h9 => h9) rfl dL_law_925 ?_
                      refine lv_iload hx hb dL_law_928 (lv_at hl 4 rfl) ?_
                      refine gt_A (k := LN q) (r := ra (LN q)) hx hb hK hW.1.2.1 rfl (by omega) (by omega) dL_law_930 ?_
                      refine lv_iload hx hb dL_law_931 (lv_at hl 2 rfl) ?_
                      refine lv_aload_n hx hb dL_law_933 rfl (lv_at hl 13 rfl) ?_
                      refine lv_iload hx hb dL_law_934 (lv_at hl 5 rfl) ?_
                      refine p_V (As := [.int (nI (q))]) (rest := [.int (nI (j2)), .ref (ra (LN q))]) S (c_X2_changedSign l g AD LL EE LN lc ec hI.1 hI.2.1 hI.hLL hI.hEE q hq j2 hj2 e13) (cwV 1 hts gL_law_X2_changedSign rfl rfl rfl (by decide +kernel) ⟨Nat.le_of_ble_eq_true rfl, Nat.le_of_ble_eq_true rfl⟩) hK (va_recv hK.1 hDk (ci := 2) (q0 := 0) rfl dk_me) hDk rfl hl.1 rfl (Nat.le_of_ble_eq_true rfl) dL_law_936 ⟨by show _ ≤ room_1.cells; omega, by show _ ≤ room_1.slots; omega⟩ ?_
                      refine n_S (As := [.ref (ra (LN q)), .int (nI (j2)), .int ((LL (LN q)).1 j2 + ((EE q).2.2.2.2.1 - smF (LL (LN q)).1 (LL (LN q)).2.2))]) (rest := []) S (c_X4_changed l g H.size (ra (LN q)) (LL (LN q)).1 (LL (LN q)).2.2 j2 ((LL (LN q)).1 j2 + ((EE q).2.2.2.2.1 - smF (LL (LN q)).1 (LL (LN q)).2.2)) hle hj2) (va_cwS 3 hts gL_law_X4_changed rfl rfl rfl (by decide +kernel) ⟨Nat.le_of_ble_eq_true rfl, Nat.le_of_ble_eq_true rfl⟩) hK (hW.2.2.1 (LN q) hLN).1 hS (fun q z => z.elim) (fun q z => z) rfl hl.1 rfl (Nat.le_of_ble_eq_true rfl) dL_law_939 ⟨by show _ ≤ room_1.cells; omega, by show _ ≤ room_1.slots; omega⟩ (fun v H locs hpost hC9 hS => ?_)
                      obtain ⟨X0, rfl, lX9, hX0⟩ := hpost
                      have hDk := dk_kept hDk hC9 (fun _ _ z => z)
                      have hW := hW.keepN hC9
                      refine lv_astore (lv' := [(16, .ref (X0)), (15, .int ((-1))), (14, .int (nI (ctN (toD LL EE LN q) 8))), (13, .int (nI (j2))), (12, .int (nI (bk))), (11, .int (nI (LN q))), (10, .int (nI (q))), (9, .int (br)), (8, .int ((EE q).2.2.2.2.2.2.1)), (7, .int (nI (lc))), (5, .long (D0)), (4, .int (x)), (3, .int (nI (t))), (2, .ref (so)), (1, .ref (AD 0)), (0, .ref (b))]) hx hb dL_law_942 hl (by decide) rfl (fun ls hl => ?_)
                      refine lv_aload hx hb dL_law_944 (lv_at hl 0 rfl) ?_
                      refine lv_iconst (v := bI false) hx hb dL_law_946 (by decide +kernel) ?_
                      refine p_S (As := [.ref (X0), .int (bI false)]) (rest := []) S (c_X4_added l g X0 (upd (LL (LN q)).1 (j2) ((LL (LN q)).1 j2 + ((EE q).2.2.2.2.1 - smF (LL (LN q)).1 (LL (LN q)).2.2))) (LL (LN q)).2.2 (by omega) false) (va_cwS 2 hts gL_law_X4_added rfl rfl rfl (by decide +kernel) ⟨Nat.le_of_ble_eq_true rfl, Nat.le_of_ble_eq_true rfl⟩) hK (hX0) rfl hl.1 rfl (Nat.le_of_ble_eq_true rfl) dL_law_947 ⟨by show _ ≤ room_1.cells; omega, by show _ ≤ room_1.slots; omega⟩ ?_
                      refine lv_aload_n hx hb dL_law_950 rfl (lv_at hl 13 rfl) ?_
                      refine va_get (D := gD g) (ci := 4) (v := .ref (ea)) (C := RX4) (T := TX4) (N := 2) hx hb hts iX4 hown hK.1 hW.1.1 0 rfl rfl 1 (by decide) f68 (fun _ h9 => h9) rfl dL_law_951 ?_
                      refine lv_iload hx hb dL_law_954 (lv_at hl 6 rfl) ?_
                      refine gt_V (k := q) (r := xa q) hx hb hK hW.1.2.2 rfl (by omega) (by omega) dL_law_956 ?_
                      refine va_get (D := gD g) (ci := 3) (v := .ref (ta q)) (C := RX3) (T := TX3) (N := 4) hx hb hts iX3 hown hK.1 (hW.2.2.2 q (by omega)).1 0 rfl rfl 1 (by decide) f159 (fun _ h9 => h9) rfl dL_law_957 ?_
                      refine lv_iconst (v := bI false) hx hb dL_law_960 (by decide +kernel) ?_
                      refine p_S (As := [.ref (ta q), .int (bI false)]) (rest := [.int (adF (upd (LL (LN q)).1 (j2) ((LL (LN q)).1 j2 + ((EE q).2.2.2.2.1 - smF (LL (LN q)).1 (LL (LN q)).2.2))) false (LL (LN q)).2.2)]) S (c_X4_added l g (ta q) (TT q).1 (TT q).2 (by omega) false) (va_cwS 2 hts gL_law_X4_added rfl rfl rfl (by decide +kernel) ⟨Nat.le_of_ble_eq_true rfl, Nat.le_of_ble_eq_true rfl⟩) hK ((hW.2.2.2 q hq).2.1) rfl hl.1 rfl (Nat.le_of_ble_eq_true rfl) dL_law_961 ⟨by show _ ≤ room_1.cells; omega, by show _ ≤ room_1.slots; omega⟩ ?_
                      refine lv_icmp_ne (tgt := 1007) hx hb dL_law_964 (by decide) (fun c964 => ?_) (fun c964 => ?_)
                      · exact absurd hs9 c964
                      · refine lv_aload hx hb dL_law_967 (lv_at hl 0 rfl) ?_
                        refine lv_iconst (v := bI true) hx hb dL_law_969 (by decide +kernel) ?_
                        refine p_S (As := [.ref (X0), .int (bI true)]) (rest := []) S (c_X4_added l g X0 (upd (LL (LN q)).1 (j2) ((LL (LN q)).1 j2 + ((EE q).2.2.2.2.1 - smF (LL (LN q)).1 (LL (LN q)).2.2))) (LL (LN q)).2.2 (by omega) true) (va_cwS 2 hts gL_law_X4_added rfl rfl rfl (by decide +kernel) ⟨Nat.le_of_ble_eq_true rfl, Nat.le_of_ble_eq_true rfl⟩) hK (hX0) rfl hl.1 rfl (Nat.le_of_ble_eq_true rfl) dL_law_970 ⟨by show _ ≤ room_1.cells; omega, by show _ ≤ room_1.slots; omega⟩ ?_
                        refine lv_aload_n hx hb dL_law_973 rfl (lv_at hl 13 rfl) ?_
                        refine va_get (D := gD g) (ci := 4) (v := .ref (ea)) (C := RX4) (T := TX4) (N := 2) hx hb hts iX4 hown hK.1 hW.1.1 0 rfl rfl 1 (by decide) f68 (fun _ h9 => h9) rfl dL_law_974 ?_
                        refine lv_iload hx hb dL_law_977 (lv_at hl 6 rfl) ?_
                        refine gt_V (k := q) (r := xa q) hx hb hK hW.1.2.2 rfl (by omega) (by omega) dL_law_979 ?_
                        refine va_get (D := gD g) (ci := 3) (v := .ref (ta q)) (C := RX3) (T := TX3) (N := 4) hx hb hts iX3 hown hK.1 (hW.2.2.2 q (by omega)).1 0 rfl rfl 1 (by decide) f159 (fun _ h9 => h9) rfl dL_law_980 ?_
                        refine lv_iconst (v := bI true) hx hb dL_law_983 (by decide +kernel) ?_
                        refine p_S (As := [.ref (ta q), .int (bI true)]) (rest := [.int (adF (upd (LL (LN q)).1 (j2) ((LL (LN q)).1 j2 + ((EE q).2.2.2.2.1 - smF (LL (LN q)).1 (LL (LN q)).2.2))) true (LL (LN q)).2.2)]) S (c_X4_added l g (ta q) (TT q).1 (TT q).2 (by omega) true) (va_cwS 2 hts gL_law_X4_added rfl rfl rfl (by decide +kernel) ⟨Nat.le_of_ble_eq_true rfl, Nat.le_of_ble_eq_true rfl⟩) hK ((hW.2.2.2 q hq).2.1) rfl hl.1 rfl (Nat.le_of_ble_eq_true rfl) dL_law_984 ⟨by show _ ≤ room_1.cells; omega, by show _ ≤ room_1.slots; omega⟩ ?_
                        refine lv_icmp_ne (tgt := 1007) hx hb dL_law_987 (by decide) (fun c987 => ?_) (fun c987 => ?_)
                        · exact absurd ht9 c987
                        · refine lv_aload_n hx hb dL_law_990 rfl (lv_at hl 14 rfl) ?_
                          refine lv_iload hx hb dL_law_991 (lv_at hl 6 rfl) ?_
                          refine p_V (As := [.int (nI (q))]) (rest := []) S (c_X2_changedSign l g AD LL EE LN lc ec hI.1 hI.2.1 hI.hLL hI.hEE q hq j2 hj2 e13) (cwV 1 hts gL_law_X2_changedSign rfl rfl rfl (by decide +kernel) ⟨Nat.le_of_ble_eq_true rfl, Nat.le_of_ble_eq_true rfl⟩) hK (va_recv hK.1 hDk (ci := 2) (q0 := 0) rfl dk_me) hDk rfl hl.1 rfl (Nat.le_of_ble_eq_true rfl) dL_law_993 ⟨by show _ ≤ room_1.cells; omega, by show _ ≤ room_1.slots; omega⟩ ?_
                          refine lv_aload_n hx hb dL_law_996 rfl (lv_at hl 14 rfl) ?_
                          refine lv_iload hx hb dL_law_997 (lv_at hl 5 rfl) ?_
                          refine lv_iload hx hb dL_law_999 (lv_at hl 3 rfl) ?_
                          refine p_V (As := [.int (nI (LN q)), .int (nI (j2))]) (rest := [.int ((LL (LN q)).1 j2 + ((EE q).2.2.2.2.1 - smF (LL (LN q)).1 (LL (LN q)).2.2))]) S (c_X2_signAt l g AD LL EE LN lc ec hI.1 hI.2.1 hI.hLL hI.hEE (LN q) hLN j2 hj2) (cwV 2 hts gL_law_X2_signAt rfl rfl rfl (by decide +kernel) ⟨Nat.le_of_ble_eq_true rfl, Nat.le_of_ble_eq_true rfl⟩) hK (va_recv hK.1 hDk (ci := 2) (q0 := 0) rfl dk_me) hDk rfl hl.1 rfl (Nat.le_of_ble_eq_true rfl) dL_law_1001 ⟨by show _ ≤ room_1.cells; omega, by show _ ≤ room_1.slots; omega⟩ ?_
                          refine lv_icmp_ne (tgt := 1009) hx hb dL_law_1004 (by decide) (fun c1004 => ?_) (fun c1004 => ?_)
                          · exact W.widen (by omega) (by omega) (kx H _ ls hDk hW hS (lv_sub hl [6, 7, 8, 9, 10, 11, 12, 13, 14, 15] rfl))
                          · exact absurd c1004 hv9
                    · exact c918.elim
                · exact absurd (by decide +kernel) c901
  · have hl : lv_has ls 18 [(15, .int (nI (j1))), (14, .int (nI (ctN (toD LL EE LN q) 8))), (13, .int (chD LL EE LN q)), (12, .int (nI (bk))), (11, .int (nI (LN q))), (10, .int (nI (q))), (9, .int (br)), (8, .int ((EE q).2.2.2.2.2.2.1)), (7, .int (nI (lc))), (5, .long (D0)), (4, .int (x)), (3, .int (nI (t))), (2, .ref (so)), (1, .ref (AD 0)), (0, .ref (b))] := by rw [e15] at hl; exact hl
    have h1 : ctN (toD LL EE LN q) 8 ≤ min 8 bk - j1 := ct_in (lo := j1) (hi := bk) 8 (fun u hu hp => ⟨Decidable.byContradiction fun z => (by rw [hall u (Nat.zero_le u) (by omega)] at hp; cases hp), hhi u hp⟩)
    have h0 : ¬ ctN (toD LL EE LN q) 8 = 0 := fun z => by
      have h9 := ct_zero 8 z j1 (by omega)
      rw [hyes] at h9
      cases h9
    have hj1b := hhi j1 hyes
    refine lv_iload hx hb dL_law_857 (lv_at hl 1 rfl) ?_
    refine br_lt0 (a := ctN (toD LL EE LN q) 8) (tgt := 914) hx hb (by omega) dL_law_859 (by decide) (fun c859 => ?_) (fun c859 => ?_)
    · exact c859.elim
    · refine lv_iload hx hb dL_law_862 (lv_at hl 1 rfl) ?_
      refine lv_iload hx hb dL_law_864 (lv_at hl 3 rfl) ?_
      refine br_gt (a := ctN (toD LL EE LN q) 8) (b := bk) (tgt := 914) hx hb (by omega) (by omega) dL_law_866 (by decide) (fun c866 => ?_) (fun c866 => ?_)
      · exact (by omega : False).elim
      · refine lv_iload hx hb dL_law_869 (lv_at hl 1 rfl) ?_
        refine br_ne0 (a := ctN (toD LL EE LN q) 8) (tgt := 878) hx hb (by omega) dL_law_871 (by decide) (fun c871 => ?_) (fun c871 => ?_)
        · refine lv_iconst (v := 0) hx hb dL_law_878 (by decide +kernel) ?_
          refine lv_iload hx hb dL_law_879 (lv_at hl 0 rfl) ?_
          refine br_ge0 (a := j1) (tgt := 888) hx hb (by omega) dL_law_881 (by decide) (fun c881 => ?_) (fun c881 => ?_)
          · refine lv_iconst (v := 0) hx hb dL_law_888 (by decide +kernel) ?_
            refine lv_icmp_ne (tgt := 914) hx hb dL_law_889 (by decide) (fun c889 => ?_) (fun c889 => ?_)
            · exact absurd rfl c889
            · refine lv_iload hx hb dL_law_892 (lv_at hl 0 rfl) ?_
              refine lv_iload hx hb dL_law_894 (lv_at hl 3 rfl) ?_
              refine br_ge (a := j1) (b := bk) (tgt := 914) hx hb (by omega) (by omega) dL_law_896 (by decide) (fun c896 => ?_) (fun c896 => ?_)
              · exact (by omega : False).elim
              · refine lv_iload hx hb dL_law_899 (lv_at hl 0 rfl) ?_
                refine br_lt0 (a := j1) (tgt := 916) hx hb (by omega) dL_law_901 (by decide) (fun c901 => ?_) (fun c901 => ?_)
                · exact c901.elim
                · refine lv_iload hx hb dL_law_904 (lv_at hl 1 rfl) ?_
                  refine lv_iload hx hb dL_law_906 (lv_at hl 3 rfl) ?_
                  refine lv_iload hx hb dL_law_908 (lv_at hl 0 rfl) ?_
                  refine lv_isub hx hb dL_law_910 ?_
                  refine lv_toI (z := nI (bk - j1)) (pk_sub (by omega)) ?_
                  refine br_le (a := ctN (toD LL EE LN q) 8) (b := bk - j1) (tgt := 916) hx hb (by omega) (by omega) dL_law_911 (by decide) (fun c911 => ?_) (fun c911 => ?_)
                  · rcases hch with e13 | ⟨j2, hj2, e13, hfit, hnn, hlo, hlw⟩
                    · have hl : lv_has ls 18 [(15, .int (nI (j1))), (14, .int (nI (ctN (toD LL EE LN q) 8))), (13, .int ((-1))), (12, .int (nI (bk))), (11, .int (nI (LN q))), (10, .int (nI (q))), (9, .int (br)), (8, .int ((EE q).2.2.2.2.2.2.1)), (7, .int (nI (lc))), (5, .long (D0)), (4, .int (x)), (3, .int (nI (t))), (2, .ref (so)), (1, .ref (AD 0)), (0, .ref (b))] := by rw [e13] at hl; exact hl
                      refine lv_iload hx hb dL_law_916 (lv_at hl 2 rfl) ?_
                      refine lv_if_ge (tgt := 924) hx hb dL_law_918 (by decide) (fun c918 => ?_) (fun c918 => ?_)
                      · exact absurd c918 (by decide +kernel)
                      · refine lv_goto (tgt := 1009) hx hb dL_law_921 (by decide) ?_
                        exact W.widen (by omega) (by omega) (kx H _ ls hDk hW hS (lv_sub hl [5, 6, 7, 8, 9, 10, 11, 12, 13, 14] rfl))
                    · have hl : lv_has ls 18 [(15, .int (nI (j1))), (14, .int (nI (ctN (toD LL EE LN q) 8))), (13, .int (nI (j2))), (12, .int (nI (bk))), (11, .int (nI (LN q))), (10, .int (nI (q))), (9, .int (br)), (8, .int ((EE q).2.2.2.2.2.2.1)), (7, .int (nI (lc))), (5, .long (D0)), (4, .int (x)), (3, .int (nI (t))), (2, .ref (so)), (1, .ref (AD 0)), (0, .ref (b))] := by rw [e13] at hl; exact hl
                      have hs9 : adF (upd (LL (LN q)).1 (j2) ((LL (LN q)).1 j2 + ((EE q).2.2.2.2.1 - smF (LL (LN q)).1 (LL (LN q)).2.2))) false (LL (LN q)).2.2 = adF (TT q).1 false (TT q).2 := by
                        show smF _ _ = smF _ _
                        rw [sm_upd, if_pos hj2, add_subl, add_subr, hE3]
                      have ht9 : adF (upd (LL (LN q)).1 (j2) ((LL (LN q)).1 j2 + ((EE q).2.2.2.2.1 - smF (LL (LN q)).1 (LL (LN q)).2.2))) true (LL (LN q)).2.2 = adF (TT q).1 true (TT q).2 := by
                        show wtF _ _ = wtF _ _
                        rw [wt_upd, if_pos hj2, add_subl, hlw, add_subr, hE4]
                      have hv9 : ¬ (LL (LN q)).1 j2 + ((EE q).2.2.2.2.1 - smF (LL (LN q)).1 (LL (LN q)).2.2) = (LL (LN q)).1 j2 := fun z => hlo (addl_eq z)
                      refine lv_iload hx hb dL_law_916 (lv_at hl 2 rfl) ?_
                      refine br_ge0 (a := j2) (tgt := 924) hx hb (by omega) dL_law_918 (by decide) (fun c918 => ?_) (fun c918 => ?_)
                      · refine lv_aload_n hx hb dL_law_924 rfl (lv_at hl 12 rfl) ?_
                        refine va_get (D := gD g) (ci := 4) (v := .ref (la)) (C := RX4) (T := TX4) (N := 2) hx hb hts iX4 hown hK.1 hW.1.1 0 rfl rfl 0 (by decide) f9 (fun _ h9 => h9) rfl dL_law_925 ?_
                        refine lv_iload hx hb dL_law_928 (lv_at hl 4 rfl) ?_
                        refine gt_A (k := LN q) (r := ra (LN q)) hx hb hK hW.1.2.1 rfl (by omega) (by omega) dL_law_930 ?_
                        refine lv_iload hx hb dL_law_931 (lv_at hl 2 rfl) ?_
                        refine lv_aload_n hx hb dL_law_933 rfl (lv_at hl 13 rfl) ?_
                        refine lv_iload hx hb dL_law_934 (lv_at hl 5 rfl) ?_
                        refine p_V (As := [.int (nI (q))]) (rest := [.int (nI (j2)), .ref (ra (LN q))]) S (c_X2_changedSign l g AD LL EE LN lc ec hI.1 hI.2.1 hI.hLL hI.hEE q hq j2 hj2 e13) (cwV 1 hts gL_law_X2_changedSign rfl rfl rfl (by decide +kernel) ⟨Nat.le_of_ble_eq_true rfl, Nat.le_of_ble_eq_true rfl⟩) hK (va_recv hK.1 hDk (ci := 2) (q0 := 0) rfl dk_me) hDk rfl hl.1 rfl (Nat.le_of_ble_eq_true rfl) dL_law_936 ⟨by show _ ≤ room_1.cells; omega, by show _ ≤ room_1.slots; omega⟩ ?_
                        refine n_S (As := [.ref (ra (LN q)), .int (nI (j2)), .int ((LL (LN q)).1 j2 + ((EE q).2.2.2.2.1 - smF (LL (LN q)).1 (LL (LN q)).2.2))]) (rest := []) S (c_X4_changed l g H.size (ra (LN q)) (LL (LN q)).1 (LL (LN q)).2.2 j2 ((LL (LN q)).1 j2 + ((EE q).2.2.2.2.1 - smF (LL (LN q)).1 (LL (LN q)).2.2)) hle hj2) (va_cwS 3 hts gL_law_X4_changed rfl rfl rfl (by decide +kernel) ⟨Nat.le_of_ble_eq_true rfl, Nat.le_of_ble_eq_true rfl⟩) hK (hW.2.2.1 (LN q) hLN).1 hS (fun q z => z.elim) (fun q z => z) rfl hl.1 rfl (Nat.le_of_ble_eq_true rfl) dL_law_939 ⟨by show _ ≤ room_1.cells; omega, by show _ ≤ room_1.slots; omega⟩ (fun v H locs hpost hC9 hS => ?_)
                        obtain ⟨X0, rfl, lX9, hX0⟩ := hpost
                        have hDk := dk_kept hDk hC9 (fun _ _ z => z)
                        have hW := hW.keepN hC9
                        refine lv_astore (lv' := [(16, .ref (X0)), (15, .int (nI (j1))), (14, .int (nI (ctN (toD LL EE LN q) 8))), (13, .int (nI (j2))), (12, .int (nI (bk))), (11, .int (nI (LN q))), (10, .int (nI (q))), (9, .int (br)), (8, .int ((EE q).2.2.2.2.2.2.1)), (7, .int (nI (lc))), (5, .long (D0)), (4, .int (x)), (3, .int (nI (t))), (2, .ref (so)), (1, .ref (AD 0)), (0, .ref (b))]) hx hb dL_law_942 hl (by decide) rfl (fun ls hl => ?_)
                        refine lv_aload hx hb dL_law_944 (lv_at hl 0 rfl) ?_
                        refine lv_iconst (v := bI false) hx hb dL_law_946 (by decide +kernel) ?_
                        refine p_S (As := [.ref (X0), .int (bI false)]) (rest := []) S (c_X4_added l g X0 (upd (LL (LN q)).1 (j2) ((LL (LN q)).1 j2 + ((EE q).2.2.2.2.1 - smF (LL (LN q)).1 (LL (LN q)).2.2))) (LL (LN q)).2.2 (by omega) false) (va_cwS 2 hts gL_law_X4_added rfl rfl rfl (by decide +kernel) ⟨Nat.le_of_ble_eq_true rfl, Nat.le_of_ble_eq_true rfl⟩) hK (hX0) rfl hl.1 rfl (Nat.le_of_ble_eq_true rfl) dL_law_947 ⟨by show _ ≤ room_1.cells; omega, by show _ ≤ room_1.slots; omega⟩ ?_
                        refine lv_aload_n hx hb dL_law_950 rfl (lv_at hl 13 rfl) ?_
                        refine va_get (D := gD g) (ci := 4) (v := .ref (ea)) (C := RX4) (T := TX4) (N := 2) hx hb hts iX4 hown hK.1 hW.1.1 0 rfl rfl 1 (by decide) f68 (fun _ h9 => h9) rfl dL_law_951 ?_
                        refine lv_iload hx hb dL_law_954 (lv_at hl 6 rfl) ?_
                        refine gt_V (k := q) (r := xa q) hx hb hK hW.1.2.2 rfl (by omega) (by omega) dL_law_956 ?_
                        refine va_get (D := gD g) (ci := 3) (v := .ref (ta q)) (C := RX3) (T := TX3) (N := 4) hx hb hts iX3 hown hK.1 (hW.2.2.2 q (by omega)).1 0 rfl rfl 1 (by decide) f159 (fun _ h9 => h9) rfl dL_law_957 ?_
                        refine lv_iconst (v := bI false) hx hb dL_law_960 (by decide +kernel) ?_
                        refine p_S (As := [.ref (ta q), .int (bI false)]) (rest := [.int (adF (upd (LL (LN q)).1 (j2) ((LL (LN q)).1 j2 + ((EE q).2.2.2.2.1 - smF (LL (LN q)).1 (LL (LN q)).2.2))) false (LL (LN q)).2.2)]) S (c_X4_added l g (ta q) (TT q).1 (TT q).2 (by omega) false) (va_cwS 2 hts gL_law_X4_added rfl rfl rfl (by decide +kernel) ⟨Nat.le_of_ble_eq_true rfl, Nat.le_of_ble_eq_true rfl⟩) hK ((hW.2.2.2 q hq).2.1) rfl hl.1 rfl (Nat.le_of_ble_eq_true rfl) dL_law_961 ⟨by show _ ≤ room_1.cells; omega, by show _ ≤ room_1.slots; omega⟩ ?_
                        refine lv_icmp_ne (tgt := 1007) hx hb dL_law_964 (by decide) (fun c964 => ?_) (fun c964 => ?_)
                        · exact absurd hs9 c964
                        · refine lv_aload hx hb dL_law_967 (lv_at hl 0 rfl) ?_
                          refine lv_iconst (v := bI true) hx hb dL_law_969 (by decide +kernel) ?_
                          refine p_S (As := [.ref (X0), .int (bI true)]) (rest := []) S (c_X4_added l g X0 (upd (LL (LN q)).1 (j2) ((LL (LN q)).1 j2 + ((EE q).2.2.2.2.1 - smF (LL (LN q)).1 (LL (LN q)).2.2))) (LL (LN q)).2.2 (by omega) true) (va_cwS 2 hts gL_law_X4_added rfl rfl rfl (by decide +kernel) ⟨Nat.le_of_ble_eq_true rfl, Nat.le_of_ble_eq_true rfl⟩) hK (hX0) rfl hl.1 rfl (Nat.le_of_ble_eq_true rfl) dL_law_970 ⟨by show _ ≤ room_1.cells; omega, by show _ ≤ room_1.slots; omega⟩ ?_
                          refine lv_aload_n hx hb dL_law_973 rfl (lv_at hl 13 rfl) ?_
                          refine va_get (D := gD g) (ci := 4) (v := .ref (ea)) (C := RX4) (T := TX4) (N := 2) hx hb hts iX4 hown hK.1 hW.1.1 0 rfl rfl 1 (by decide) f68 (fun _ h9 => h9) rfl dL_law_974 ?_
                          refine lv_iload hx hb dL_law_977 (lv_at hl 6 rfl) ?_
                          refine gt_V (k := q) (r := xa q) hx hb hK hW.1.2.2 rfl (by omega) (by omega) dL_law_979 ?_
                          refine va_get (D := gD g) (ci := 3) (v := .ref (ta q)) (C := RX3) (T := TX3) (N := 4) hx hb hts iX3 hown hK.1 (hW.2.2.2 q (by omega)).1 0 rfl rfl 1 (by decide) f159 (fun _ h9 => h9) rfl dL_law_980 ?_
                          refine lv_iconst (v := bI true) hx hb dL_law_983 (by decide +kernel) ?_
                          refine p_S (As := [.ref (ta q), .int (bI true)]) (rest := [.int (adF (upd (LL (LN q)).1 (j2) ((LL (LN q)).1 j2 + ((EE q).2.2.2.2.1 - smF (LL (LN q)).1 (LL (LN q)).2.2))) true (LL (LN q)).2.2)]) S (c_X4_added l g (ta q) (TT q).1 (TT q).2 (by omega) true) (va_cwS 2 hts gL_law_X4_added rfl rfl rfl (by decide +kernel) ⟨Nat.le_of_ble_eq_true rfl, Nat.le_of_ble_eq_true rfl⟩) hK ((hW.2.2.2 q hq).2.1) rfl hl.1 rfl (Nat.le_of_ble_eq_true rfl) dL_law_984 ⟨by show _ ≤ room_1.cells; omega, by show _ ≤ room_1.slots; omega⟩ ?_
                          refine lv_icmp_ne (tgt := 1007) hx hb dL_law_987 (by decide) (fun c987 => ?_) (fun c987 => ?_)
                          · exact absurd ht9 c987
                          · refine lv_aload_n hx hb dL_law_990 rfl (lv_at hl 14 rfl) ?_
                            refine lv_iload hx hb dL_law_991 (lv_at hl 6 rfl) ?_
                            refine p_V (As := [.int (nI (q))]) (rest := []) S (c_X2_changedSign l g AD LL EE LN lc ec hI.1 hI.2.1 hI.hLL hI.hEE q hq j2 hj2 e13) (cwV 1 hts gL_law_X2_changedSign rfl rfl rfl (by decide +kernel) ⟨Nat.le_of_ble_eq_true rfl, Nat.le_of_ble_eq_true rfl⟩) hK (va_recv hK.1 hDk (ci := 2) (q0 := 0) rfl dk_me) hDk rfl hl.1 rfl (Nat.le_of_ble_eq_true rfl) dL_law_993 ⟨by show _ ≤ room_1.cells; omega, by show _ ≤ room_1.slots; omega⟩ ?_
                            refine lv_aload_n hx hb dL_law_996 rfl (lv_at hl 14 rfl) ?_
                            refine lv_iload hx hb dL_law_997 (lv_at hl 5 rfl) ?_
                            refine lv_iload hx hb dL_law_999 (lv_at hl 3 rfl) ?_
                            refine p_V (As := [.int (nI (LN q)), .int (nI (j2))]) (rest := [.int ((LL (LN q)).1 j2 + ((EE q).2.2.2.2.1 - smF (LL (LN q)).1 (LL (LN q)).2.2))]) S (c_X2_signAt l g AD LL EE LN lc ec hI.1 hI.2.1 hI.hLL hI.hEE (LN q) hLN j2 hj2) (cwV 2 hts gL_law_X2_signAt rfl rfl rfl (by decide +kernel) ⟨Nat.le_of_ble_eq_true rfl, Nat.le_of_ble_eq_true rfl⟩) hK (va_recv hK.1 hDk (ci := 2) (q0 := 0) rfl dk_me) hDk rfl hl.1 rfl (Nat.le_of_ble_eq_true rfl) dL_law_1001 ⟨by show _ ≤ room_1.cells; omega, by show _ ≤ room_1.slots; omega⟩ ?_
                            refine lv_icmp_ne (tgt := 1009) hx hb dL_law_1004 (by decide) (fun c1004 => ?_) (fun c1004 => ?_)
                            · exact W.widen (by omega) (by omega) (kx H _ ls hDk hW hS (lv_sub hl [6, 7, 8, 9, 10, 11, 12, 13, 14, 15] rfl))
                            · exact absurd c1004 hv9
                      · exact c918.elim
                  · exact (by omega : False).elim
          · exact c881.elim
        · exact (by omega : False).elim

set_option maxHeartbeats 4000000 in
set_option maxRecDepth 100000 in
/-- the envelopes -/
theorem law_663 {p : Program} {e : Env} {s : State} {m : MethodId} {below : List Frame} {meth : Method} {c : Code} {Q : State → Prop} (l : Launch) (hlt : l.stackTraces = false) (g : gT) {b L : Nat} {xs : Nat → Int32} {B so : Nat} {AD : Nat → Nat} (hx : p.tables.exec = Jvm.exec) (hb : c.code = cL_law) (hml : c.maxLocals = 18) (hts : ∀ w ∈ wsL_law, w.before #[Value.ref b] s = true) (hown : s.vm.findClass RL = some m.cls) (hK : KK g s) (hZ0 : ZB s.heap.size s s.heap) (hX0 : va_X b L xs s s.heap) (hL : L < 1000) (hJD : JD s.heap.size B AD)
    {LL : Nat → ltT} {EE : Nat → evT} {LN : Nat → Nat} {TT : Nat → (Nat → Int32) × Nat} {lc ec la ea : Nat} {ra xa ta : Nat → Nat} {C Z : Nat} (hC : C ≤ 90000) (hZ : Z ≤ 900000) (hI : Iv LL EE LN TT lc ec) (hBso : B ≤ so)
    {t : Nat} {x : Int32} {D0 : Int64} {br : Int32} (hbr : ((br = -1 ∧ ∀ q, q < ec → ftD LL EE LN q = true) ∨ ∃ j, j < ec ∧ br = nI j ∧ ftD LL EE LN j = false ∧ ∀ x, x < j → ftD LL EE LN x = true))
    (kx : ∀ (H : Heap) (locs : List Loc) (ls : Array Slot), va_P (gD g) vwCl (wsD g AD LL EE lc ec) H → SW g B so la ea ra xa ta LL EE TT lc ec H → va_S (bA s.heap.size) s.heap H locs → lv_has ls 18 [(7, .int (nI (lc))), (5, .long (D0)), (4, .int (x)), (3, .int (nI (t))), (2, .ref (so)), (1, .ref (AD 0)), (0, .ref (b))] → W p l e room_1 s m #[Value.ref b] below meth c H locs (C + 24) (Z + 960) Q (F0 m 1015 ls [])) : ∀ (k1 q : Nat) (H : Heap) (locs : List Loc) (ls : Array Slot), ec - q < k1 → q ≤ ec → va_P (gD g) vwCl (wsD g AD LL EE lc ec) H → SW g B so la ea ra xa ta LL EE TT lc ec H → va_S (bA s.heap.size) s.heap H locs → lv_has ls 18 [(10, .int (nI (q))), (9, .int (br)), (8, .int (lsD EE q)), (7, .int (nI (lc))), (5, .long (D0)), (4, .int (x)), (3, .int (nI (t))), (2, .ref (so)), (1, .ref (AD 0)), (0, .ref (b))] → W p l e room_1 s m #[Value.ref b] below meth c H locs (C + q) (Z + 40 * q) Q (F0 m 663 ls []) := by
  have S : CallFix p m c cL_law 18 s #[Value.ref b] wsL_law RL := ⟨hx, hb, hml, hown, hts⟩
  have rC : 200000 ≤ room_1.cells := Nat.le_of_ble_eq_true rfl
  have rS : 2000000 ≤ room_1.slots := Nat.le_of_ble_eq_true rfl
  have hB0B : s.heap.size ≤ B := hJD.2.2
  have hlc12 := hI.1
  have hec24 := hI.2.1
  have iX3 : ∀ w ∈ u_ws RX3 TX3 4, w ∈ wsL_law := by decide +kernel
  have iX4 : ∀ w ∈ u_ws RX4 TX4 2, w ∈ wsL_law := by decide +kernel
  have f68 := hts (.fieldLink RL 68 "LetterSealsLaw$Sim" "envelopes" "[LLetterSealsLaw$Envelope;") (by decide +kernel)
  have f159 := hts (.fieldLink RL 159 "LetterSealsLaw$Envelope" "then" "[I") (by decide +kernel)
  have k177 := hts (.constant RL 177 (65520)) (by decide +kernel)
  have kl149 := hts (.constantLong RL 149 (53)) (by decide +kernel)
  have kl154 := hts (.constantLong RL 154 (65521)) (by decide +kernel)
  intro k1
  induction k1 with
  | zero => intro q H locs ls hFu; exact absurd hFu (Nat.not_lt_zero _)
  | succ k1 ih =>
    intro q H locs ls hFu hLe hDk hW hS hl
    refine lv_iload hx hb dL_law_663 (lv_at hl 0 rfl) ?_
    refine lv_aload_n hx hb dL_law_665 rfl (lv_at hl 8 rfl) ?_
    refine p_V (As := []) (rest := [.int (nI (q))]) S (c_X2_envelopes l g AD LL EE LN lc ec hI.1 hI.2.1 hI.hLL hI.hEE ) (cwV 0 hts gL_law_X2_envelopes rfl rfl rfl (by decide +kernel) ⟨Nat.le_of_ble_eq_true rfl, Nat.le_of_ble_eq_true rfl⟩) hK (va_recv hK.1 hDk (ci := 2) (q0 := 0) rfl dk_me) hDk rfl hl.1 rfl (Nat.le_of_ble_eq_true rfl) dL_law_666 ⟨by show _ ≤ room_1.cells; omega, by show _ ≤ room_1.slots; omega⟩ ?_
    refine br_ge (a := q) (b := ec) (tgt := 1015) hx hb (by omega) (by omega) dL_law_669 (by decide) (fun c669 => ?_) (fun c669 => ?_)
    · exact W.widen (by omega) (by omega) (kx H _ ls hDk hW hS (lv_sub hl [3, 4, 5, 6, 7, 8, 9] rfl))
    · have hq : q < ec := by omega
      obtain ⟨⟨hE0, hLN, hE1, hE2, hE5⟩, ⟨hE6, hE3, hE4, hE7⟩, hE8⟩ := hI.2.2.2.2.2 q hq
      have hle := hI.le hLN
      obtain ⟨u, hu, eu⟩ := hI.seN hq
      have back : ∀ (H : Heap) (locs : List Loc) (ls : Array Slot), va_P (gD g) vwCl (wsD g AD LL EE lc ec) H → SW g B so la ea ra xa ta LL EE TT lc ec H → va_S (bA s.heap.size) s.heap H locs → lv_has ls 18 [(10, .int (nI (q))), (9, .int (br)), (8, .int ((EE q).2.2.2.2.2.2.1)), (7, .int (nI (lc))), (5, .long (D0)), (4, .int (x)), (3, .int (nI (t))), (2, .ref (so)), (1, .ref (AD 0)), (0, .ref (b))] → W p l e room_1 s m #[Value.ref b] below meth c H locs (C + q + 1) (Z + 40 * q + 40) Q (F0 m 1009 ls []) := by
        intro H locs ls hDk hW hS hl
        refine lv_iinc (v := nI (q + 1)) (lv' := [(10, .int (nI (q + 1))), (9, .int (br)), (8, .int ((EE q).2.2.2.2.2.2.1)), (7, .int (nI (lc))), (5, .long (D0)), (4, .int (x)), (3, .int (nI (t))), (2, .ref (so)), (1, .ref (AD 0)), (0, .ref (b))]) hx hb dL_law_1009 hl (k := 0) rfl (nI_1 _) (by decide) rfl (fun ls hl => ?_)
        refine lv_goto (tgt := 663) hx hb dL_law_1012 (by decide) ?_
        exact W.widen (by omega) (by omega) (ih (q + 1) H _ _ (by omega) (by omega) hDk hW hS (by rw [← ls_next]; exact lv_sub hl [0, 1, 2, 3, 4, 5, 6, 7, 8, 9] rfl))
      refine lv_ldc2 (v := 53) hx hb hown kl149 dL_law_672 ?_
      refine lv_iload hx hb dL_law_675 (lv_at hl 2 rfl) ?_
      refine lv_i2l (v := (lsD EE q).toInt64) hx hb dL_law_677 rfl ?_
      refine lv_lmul hx hb dL_law_678 ?_
      refine lv_aload_n hx hb dL_law_679 rfl (lv_at hl 8 rfl) ?_
      refine lv_iload hx hb dL_law_680 (lv_at hl 0 rfl) ?_
      refine p_V (As := [.int (nI (q))]) (rest := [.long ((53) * ((lsD EE q).toInt64))]) S (c_X2_digestIn l g AD LL EE LN lc ec hI.1 hI.2.1 hI.hLL hI.hEE q hq) (cwV 1 hts gL_law_X2_digestIn rfl rfl rfl (by decide +kernel) ⟨Nat.le_of_ble_eq_true rfl, Nat.le_of_ble_eq_true rfl⟩) hK (va_recv hK.1 hDk (ci := 2) (q0 := 0) rfl dk_me) hDk rfl hl.1 rfl (Nat.le_of_ble_eq_true rfl) dL_law_682 ⟨by show _ ≤ room_1.cells; omega, by show _ ≤ room_1.slots; omega⟩ ?_
      refine lv_i2l (v := ((EE q).2.1).toInt64) hx hb dL_law_685 rfl ?_
      refine lv_ladd hx hb dL_law_686 ?_
      refine lv_ldc2 (v := 65521) hx hb hown kl154 dL_law_687 ?_
      refine lv_lrem hx hb dL_law_690 (by decide +kernel) ?_
      refine lv_l2i (v := ((((53) * ((lsD EE q).toInt64)) + (((EE q).2.1).toInt64)) - (((53) * ((lsD EE q).toInt64)) + (((EE q).2.1).toInt64)) / (65521) * (65521)).toInt32) hx hb dL_law_691 rfl ?_
      refine lv_toI (z := (EE q).2.2.2.2.2.2.1) (hI.sealJ hq) ?_
      refine lv_istore (lv' := [(8, .int ((EE q).2.2.2.2.2.2.1)), (10, .int (nI (q))), (9, .int (br)), (7, .int (nI (lc))), (5, .long (D0)), (4, .int (x)), (3, .int (nI (t))), (2, .ref (so)), (1, .ref (AD 0)), (0, .ref (b))]) hx hb dL_law_692 hl (by decide) rfl (fun ls hl => ?_)
      refine lv_aload_n hx hb dL_law_694 rfl (lv_at hl 8 rfl) ?_
      refine lv_iload hx hb dL_law_695 (lv_at hl 1 rfl) ?_
      refine p_V (As := [.int (nI (q))]) (rest := []) S (c_X2_letterIn l g AD LL EE LN lc ec hI.1 hI.2.1 hI.hLL hI.hEE q hq) (cwV 1 hts gL_law_X2_letterIn rfl rfl rfl (by decide +kernel) ⟨Nat.le_of_ble_eq_true rfl, Nat.le_of_ble_eq_true rfl⟩) hK (va_recv hK.1 hDk (ci := 2) (q0 := 0) rfl dk_me) hDk rfl hl.1 rfl (Nat.le_of_ble_eq_true rfl) dL_law_697 ⟨by show _ ≤ room_1.cells; omega, by show _ ≤ room_1.slots; omega⟩ ?_
      refine lv_istore (lv' := [(11, .int (nI (LN q))), (8, .int ((EE q).2.2.2.2.2.2.1)), (10, .int (nI (q))), (9, .int (br)), (7, .int (nI (lc))), (5, .long (D0)), (4, .int (x)), (3, .int (nI (t))), (2, .ref (so)), (1, .ref (AD 0)), (0, .ref (b))]) hx hb dL_law_700 hl (by decide) rfl (fun ls hl => ?_)
      refine lv_aload_n hx hb dL_law_702 rfl (lv_at hl 9 rfl) ?_
      refine lv_iload hx hb dL_law_703 (lv_at hl 0 rfl) ?_
      refine p_V (As := [.int (nI (LN q))]) (rest := []) S (c_X2_signsOf l g AD LL EE LN lc ec hI.1 hI.2.1 hI.hLL hI.hEE (LN q) hLN) (cwV 1 hts gL_law_X2_signsOf rfl rfl rfl (by decide +kernel) ⟨Nat.le_of_ble_eq_true rfl, Nat.le_of_ble_eq_true rfl⟩) hK (va_recv hK.1 hDk (ci := 2) (q0 := 0) rfl dk_me) hDk rfl hl.1 rfl (Nat.le_of_ble_eq_true rfl) dL_law_705 ⟨by show _ ≤ room_1.cells; omega, by show _ ≤ room_1.slots; omega⟩ ?_
      refine lv_aload_n hx hb dL_law_708 rfl (lv_at hl 8 rfl) ?_
      refine va_get (D := gD g) (ci := 4) (v := .ref (ea)) (C := RX4) (T := TX4) (N := 2) hx hb hts iX4 hown hK.1 hW.1.1 0 rfl rfl 1 (by decide) f68 (fun _ h9 => h9) rfl dL_law_709 ?_
      refine lv_iload hx hb dL_law_712 (lv_at hl 2 rfl) ?_
      refine gt_V (k := q) (r := xa q) hx hb hK hW.1.2.2 rfl (by omega) (by omega) dL_law_714 ?_
      refine va_get (D := gD g) (ci := 3) (v := .ref (ta q)) (C := RX3) (T := TX3) (N := 4) hx hb hts iX3 hown hK.1 (hW.2.2.2 q (by omega)).1 0 rfl rfl 1 (by decide) f159 (fun _ h9 => h9) rfl dL_law_715 ?_
      refine va_alen (v := nI ((TT q).2)) hx hb hK.1 (hW.2.2.2 q (by omega)).2.1 0 0 rfl (ht := (rfl : (gTy g)[0]? = _)) rfl dL_law_718 ?_
      refine va_mmax (rest := []) hx hb (hml.trans hl.1.symm) hown (hts (.methodLink RL 42 Lib.Math.max.name) (by decide +kernel)) (hts (.static Lib.Math.max.name) (by decide +kernel)) (hts (.initialized "java/lang/Math") (by decide +kernel)) (hts (.code Lib.Math.max.name Lib.Math.max.code 2 (some .int)) (by decide +kernel)) (Nat.le_of_ble_eq_true rfl) (Nat.le_of_ble_eq_true rfl) (by show _ ≤ room_1.cells; omega) (by show _ ≤ room_1.slots; omega) dL_law_719 ?_
      refine lv_toI (z := nI (max ((LL (LN q)).2.2) ((TT q).2))) (mxn (by omega) (by omega)) ?_
      refine lv_iconst (v := nI (4)) hx hb dL_law_722 (by decide +kernel) ?_
      refine lv_iadd hx hb dL_law_723 ?_
      refine lv_toI (z := nI (max ((LL (LN q)).2.2) ((TT q).2) + 4)) (nI_add _ _) ?_
      refine lv_iconst (v := nI (5)) hx hb dL_law_724 (by decide +kernel) ?_
      refine lv_idiv hx hb dL_law_725 (by decide +kernel) ?_
      refine lv_toI (z := nI ((max ((LL (LN q)).2.2) ((TT q).2) + 4) / 5)) (pk_div (by omega) (by omega) (by omega)) ?_
      refine lv_istore (lv' := [(12, .int (nI ((max ((LL (LN q)).2.2) ((TT q).2) + 4) / 5))), (11, .int (nI (LN q))), (8, .int ((EE q).2.2.2.2.2.2.1)), (10, .int (nI (q))), (9, .int (br)), (7, .int (nI (lc))), (5, .long (D0)), (4, .int (x)), (3, .int (nI (t))), (2, .ref (so)), (1, .ref (AD 0)), (0, .ref (b))]) hx hb dL_law_726 hl (by decide) rfl (fun ls hl => ?_)
      refine lv_aload_n hx hb dL_law_728 rfl (lv_at hl 10 rfl) ?_
      refine lv_iload hx hb dL_law_729 (lv_at hl 3 rfl) ?_
      refine p_V (As := [.int (nI (q))]) (rest := []) S (c_X2_changedPlace l g AD LL EE LN lc ec hI.1 hI.2.1 hI.hLL hI.hEE q hq) (cwV 1 hts gL_law_X2_changedPlace rfl rfl rfl (by decide +kernel) ⟨Nat.le_of_ble_eq_true rfl, Nat.le_of_ble_eq_true rfl⟩) hK (va_recv hK.1 hDk (ci := 2) (q0 := 0) rfl dk_me) hDk rfl hl.1 rfl (Nat.le_of_ble_eq_true rfl) dL_law_731 ⟨by show _ ≤ room_1.cells; omega, by show _ ≤ room_1.slots; omega⟩ ?_
      refine lv_istore (lv' := [(13, .int (chD LL EE LN q)), (12, .int (nI ((max ((LL (LN q)).2.2) ((TT q).2) + 4) / 5))), (11, .int (nI (LN q))), (8, .int ((EE q).2.2.2.2.2.2.1)), (10, .int (nI (q))), (9, .int (br)), (7, .int (nI (lc))), (5, .long (D0)), (4, .int (x)), (3, .int (nI (t))), (2, .ref (so)), (1, .ref (AD 0)), (0, .ref (b))]) hx hb dL_law_734 hl (by decide) rfl (fun ls hl => ?_)
      refine lv_aload_n hx hb dL_law_736 rfl (lv_at hl 11 rfl) ?_
      refine lv_iload hx hb dL_law_737 (lv_at hl 4 rfl) ?_
      refine p_V (As := [.int (nI (q))]) (rest := []) S (c_X2_tornBlocks l g AD LL EE LN lc ec hI.1 hI.2.1 hI.hLL hI.hEE q hq) (cwV 1 hts gL_law_X2_tornBlocks rfl rfl rfl (by decide +kernel) ⟨Nat.le_of_ble_eq_true rfl, Nat.le_of_ble_eq_true rfl⟩) hK (va_recv hK.1 hDk (ci := 2) (q0 := 0) rfl dk_me) hDk rfl hl.1 rfl (Nat.le_of_ble_eq_true rfl) dL_law_739 ⟨by show _ ≤ room_1.cells; omega, by show _ ≤ room_1.slots; omega⟩ ?_
      refine lv_toI (z := nI (ctN (toD LL EE LN q) 8)) (ac_nat _ _) ?_
      refine lv_istore (lv' := [(14, .int (nI (ctN (toD LL EE LN q) 8))), (13, .int (chD LL EE LN q)), (12, .int (nI ((max ((LL (LN q)).2.2) ((TT q).2) + 4) / 5))), (11, .int (nI (LN q))), (8, .int ((EE q).2.2.2.2.2.2.1)), (10, .int (nI (q))), (9, .int (br)), (7, .int (nI (lc))), (5, .long (D0)), (4, .int (x)), (3, .int (nI (t))), (2, .ref (so)), (1, .ref (AD 0)), (0, .ref (b))]) hx hb dL_law_742 hl (by decide) rfl (fun ls hl => ?_)
      refine lv_aload_n hx hb dL_law_744 rfl (lv_at hl 12 rfl) ?_
      refine lv_iload hx hb dL_law_745 (lv_at hl 5 rfl) ?_
      refine p_V (As := [.int (nI (q))]) (rest := []) S (c_X2_firstTorn l g AD LL EE LN lc ec hI.1 hI.2.1 hI.hLL hI.hEE q hq) (cwV 1 hts gL_law_X2_firstTorn rfl rfl rfl (by decide +kernel) ⟨Nat.le_of_ble_eq_true rfl, Nat.le_of_ble_eq_true rfl⟩) hK (va_recv hK.1 hDk (ci := 2) (q0 := 0) rfl dk_me) hDk rfl hl.1 rfl (Nat.le_of_ble_eq_true rfl) dL_law_747 ⟨by show _ ≤ room_1.cells; omega, by show _ ≤ room_1.slots; omega⟩ ?_
      refine lv_istore (lv' := [(15, .int (fsF (toD LL EE LN q) 8 0)), (14, .int (nI (ctN (toD LL EE LN q) 8))), (13, .int (chD LL EE LN q)), (12, .int (nI ((max ((LL (LN q)).2.2) ((TT q).2) + 4) / 5))), (11, .int (nI (LN q))), (8, .int ((EE q).2.2.2.2.2.2.1)), (10, .int (nI (q))), (9, .int (br)), (7, .int (nI (lc))), (5, .long (D0)), (4, .int (x)), (3, .int (nI (t))), (2, .ref (so)), (1, .ref (AD 0)), (0, .ref (b))]) hx hb dL_law_750 hl (by decide) rfl (fun ls hl => ?_)
      refine lv_aload_n hx hb dL_law_752 rfl (lv_at hl 13 rfl) ?_
      refine lv_iload hx hb dL_law_753 (lv_at hl 6 rfl) ?_
      refine p_V (As := [.int (nI (q))]) (rest := []) S (c_X2_sealOf l g AD LL EE LN lc ec hI.1 hI.2.1 hI.hLL hI.hEE q hq) (cwV 1 hts gL_law_X2_sealOf rfl rfl rfl (by decide +kernel) ⟨Nat.le_of_ble_eq_true rfl, Nat.le_of_ble_eq_true rfl⟩) hK (va_recv hK.1 hDk (ci := 2) (q0 := 0) rfl dk_me) hDk rfl hl.1 rfl (Nat.le_of_ble_eq_true rfl) dL_law_755 ⟨by show _ ≤ room_1.cells; omega, by show _ ≤ room_1.slots; omega⟩ ?_
      refine lv_iload hx hb dL_law_758 (lv_at hl 5 rfl) ?_
      refine lv_icmp_ne (tgt := 855) hx hb dL_law_760 (by decide) (fun c760 => ?_) (fun c760 => ?_)
      · exact absurd rfl c760
      · refine lv_iload hx hb dL_law_763 (lv_at hl 5 rfl) ?_
        refine lv_toI (z := nI (u)) (eu) ?_
        refine br_lt0 (a := u) (tgt := 855) hx hb (by omega) dL_law_765 (by decide) (fun c765 => ?_) (fun c765 => ?_)
        · exact c765.elim
        · refine lv_iload hx hb dL_law_768 (lv_at hl 5 rfl) ?_
          refine lv_toI (z := nI (u)) (eu) ?_
          refine lv_ldc (v := 65520) hx hb hown k177 dL_law_770 ?_
          refine lv_toI (z := nI (65520)) (by decide +kernel) ?_
          refine br_gt (a := u) (b := 65520) (tgt := 855) hx hb (by omega) (by omega) dL_law_772 (by decide) (fun c772 => ?_) (fun c772 => ?_)
          · exact (by omega : False).elim
          · refine lv_aload_n hx hb dL_law_775 rfl (lv_at hl 13 rfl) ?_
            refine lv_iload hx hb dL_law_776 (lv_at hl 6 rfl) ?_
            refine p_V (As := [.int (nI (q))]) (rest := []) S (c_X2_isWhole l g AD LL EE LN lc ec hI.1 hI.2.1 hI.hLL hI.hEE q hq) (cwV 1 hts gL_law_X2_isWhole rfl rfl rfl (by decide +kernel) ⟨Nat.le_of_ble_eq_true rfl, Nat.le_of_ble_eq_true rfl⟩) hK (va_recv hK.1 hDk (ci := 2) (q0 := 0) rfl dk_me) hDk rfl hl.1 rfl (Nat.le_of_ble_eq_true rfl) dL_law_778 ⟨by show _ ≤ room_1.cells; omega, by show _ ≤ room_1.slots; omega⟩ ?_
            refine lv_aload_n hx hb dL_law_781 rfl (lv_at hl 13 rfl) ?_
            refine lv_iload hx hb dL_law_782 (lv_at hl 4 rfl) ?_
            refine p_V (As := [.int (nI (LN q))]) (rest := [.int (bI (ftD LL EE LN q))]) S (c_X2_digestOf l g AD LL EE LN lc ec hI.1 hI.2.1 hI.hLL hI.hEE (LN q) hLN) (cwV 1 hts gL_law_X2_digestOf rfl rfl rfl (by decide +kernel) ⟨Nat.le_of_ble_eq_true rfl, Nat.le_of_ble_eq_true rfl⟩) hK (va_recv hK.1 hDk (ci := 2) (q0 := 0) rfl dk_me) hDk rfl hl.1 rfl (Nat.le_of_ble_eq_true rfl) dL_law_784 ⟨by show _ ≤ room_1.cells; omega, by show _ ≤ room_1.slots; omega⟩ ?_
            refine lv_aload_n hx hb dL_law_787 rfl (lv_at hl 13 rfl) ?_
            refine lv_iload hx hb dL_law_788 (lv_at hl 6 rfl) ?_
            refine p_V (As := [.int (nI (q))]) (rest := [.int (dgF (LL (LN q)).1 (LL (LN q)).2.2), .int (bI (ftD LL EE LN q))]) S (c_X2_digestIn l g AD LL EE LN lc ec hI.1 hI.2.1 hI.hLL hI.hEE q hq) (cwV 1 hts gL_law_X2_digestIn rfl rfl rfl (by decide +kernel) ⟨Nat.le_of_ble_eq_true rfl, Nat.le_of_ble_eq_true rfl⟩) hK (va_recv hK.1 hDk (ci := 2) (q0 := 0) rfl dk_me) hDk rfl hl.1 rfl (Nat.le_of_ble_eq_true rfl) dL_law_790 ⟨by show _ ≤ room_1.cells; omega, by show _ ≤ room_1.slots; omega⟩ ?_
            refine lv_icmp_ne (tgt := 800) hx hb dL_law_793 (by decide) (fun c793 => ?_) (fun c793 => ?_)
            · refine lv_iconst (v := bI false) hx hb dL_law_800 (by decide +kernel) ?_
              refine lv_icmp_ne (tgt := 855) hx hb dL_law_801 (by decide) (fun c801 => ?_) (fun c801 => ?_)
              · exact absurd (congrArg bI (show ftD LL EE LN q = _ from by first | exact decide_eq_true c793 | exact decide_eq_false c793)) c801
              · rcases hbr with ⟨ebr, hall⟩ | ⟨j0, hj0, ebr, hno, hall⟩
                · have hl : lv_has ls 18 [(15, .int (fsF (toD LL EE LN q) 8 0)), (14, .int (nI (ctN (toD LL EE LN q) 8))), (13, .int (chD LL EE LN q)), (12, .int (nI ((max ((LL (LN q)).2.2) ((TT q).2) + 4) / 5))), (11, .int (nI (LN q))), (8, .int ((EE q).2.2.2.2.2.2.1)), (10, .int (nI (q))), (9, .int ((-1))), (7, .int (nI (lc))), (5, .long (D0)), (4, .int (x)), (3, .int (nI (t))), (2, .ref (so)), (1, .ref (AD 0)), (0, .ref (b))] := by rw [ebr] at hl; exact hl
                  refine lv_iload hx hb dL_law_804 (lv_at hl 6 rfl) ?_
                  refine lv_iload hx hb dL_law_806 (lv_at hl 7 rfl) ?_
                  refine lv_icmp_ne (tgt := 820) hx hb dL_law_808 (by decide) (fun c808 => ?_) (fun c808 => ?_)
                  · refine lv_iload hx hb dL_law_820 (lv_at hl 7 rfl) ?_
                    refine lv_if_lt (tgt := 832) hx hb dL_law_822 (by decide) (fun c822 => ?_) (fun c822 => ?_)
                    · refine lv_aload_n hx hb dL_law_832 rfl (lv_at hl 13 rfl) ?_
                      refine lv_iload hx hb dL_law_833 (lv_at hl 6 rfl) ?_
                      refine p_V (As := [.int (nI (q))]) (rest := []) S (c_X2_isWhole l g AD LL EE LN lc ec hI.1 hI.2.1 hI.hLL hI.hEE q hq) (cwV 1 hts gL_law_X2_isWhole rfl rfl rfl (by decide +kernel) ⟨Nat.le_of_ble_eq_true rfl, Nat.le_of_ble_eq_true rfl⟩) hK (va_recv hK.1 hDk (ci := 2) (q0 := 0) rfl dk_me) hDk rfl hl.1 rfl (Nat.le_of_ble_eq_true rfl) dL_law_835 ⟨by show _ ≤ room_1.cells; omega, by show _ ≤ room_1.slots; omega⟩ ?_
                      refine lv_toI (z := bI true) (by rw [hall q hq]) ?_
                      refine br_eqB (tgt := 855) hx hb dL_law_838 (by decide) (fun c838 => ?_) (fun c838 => ?_)
                      · exact absurd c838 (by decide)
                      · refine lv_aload_n hx hb dL_law_841 rfl (lv_at hl 13 rfl) ?_
                        refine lv_iload hx hb dL_law_842 (lv_at hl 6 rfl) ?_
                        refine p_V (As := [.int (nI (q))]) (rest := []) S (c_X2_isWhole l g AD LL EE LN lc ec hI.1 hI.2.1 hI.hLL hI.hEE q hq) (cwV 1 hts gL_law_X2_isWhole rfl rfl rfl (by decide +kernel) ⟨Nat.le_of_ble_eq_true rfl, Nat.le_of_ble_eq_true rfl⟩) hK (va_recv hK.1 hDk (ci := 2) (q0 := 0) rfl dk_me) hDk rfl hl.1 rfl (Nat.le_of_ble_eq_true rfl) dL_law_844 ⟨by show _ ≤ room_1.cells; omega, by show _ ≤ room_1.slots; omega⟩ ?_
                        refine lv_toI (z := bI true) (by rw [hall q hq]) ?_
                        refine br_eqB (tgt := 857) hx hb dL_law_847 (by decide) (fun c847 => ?_) (fun c847 => ?_)
                        · exact absurd c847 (by decide)
                        · refine lv_iload hx hb dL_law_850 (lv_at hl 2 rfl) ?_
                          refine lv_toI (z := (-1)) (ch_whole (hall q hq)) ?_
                          refine lv_if_lt (tgt := 857) hx hb dL_law_852 (by decide) (fun c852 => ?_) (fun c852 => ?_)
                          · rw [← ebr] at hl
                            exact law_857 l hlt g hx hb hml hts hown hK hZ0 hX0 hL hJD (by omega) (by omega) hI hDk hW hS hq rfl (fun H locs ls hDk hW hS hl => back H locs ls hDk hW hS hl) ls (lv_sub hl [0, 1, 2, 3, 4, 6, 7, 5, 8, 9, 10, 11, 12, 13, 14] rfl)
                          · exact absurd (by decide +kernel) c852
                    · exact absurd (by decide +kernel) c822
                  · exact absurd c808 (law_nm1 _ (by omega))
                · have hl : lv_has ls 18 [(15, .int (fsF (toD LL EE LN q) 8 0)), (14, .int (nI (ctN (toD LL EE LN q) 8))), (13, .int (chD LL EE LN q)), (12, .int (nI ((max ((LL (LN q)).2.2) ((TT q).2) + 4) / 5))), (11, .int (nI (LN q))), (8, .int ((EE q).2.2.2.2.2.2.1)), (10, .int (nI (q))), (9, .int (nI (j0))), (7, .int (nI (lc))), (5, .long (D0)), (4, .int (x)), (3, .int (nI (t))), (2, .ref (so)), (1, .ref (AD 0)), (0, .ref (b))] := by rw [ebr] at hl; exact hl
                  refine lv_iload hx hb dL_law_804 (lv_at hl 6 rfl) ?_
                  refine lv_iload hx hb dL_law_806 (lv_at hl 7 rfl) ?_
                  refine br_ne (a := q) (b := j0) (tgt := 820) hx hb (by omega) (by omega) dL_law_808 (by decide) (fun c808 => ?_) (fun c808 => ?_)
                  · refine lv_iload hx hb dL_law_820 (lv_at hl 7 rfl) ?_
                    refine br_lt0 (a := j0) (tgt := 832) hx hb (by omega) dL_law_822 (by decide) (fun c822 => ?_) (fun c822 => ?_)
                    · exact c822.elim
                    · refine lv_iload hx hb dL_law_825 (lv_at hl 6 rfl) ?_
                      refine lv_iload hx hb dL_law_827 (lv_at hl 7 rfl) ?_
                      refine br_ge (a := q) (b := j0) (tgt := 841) hx hb (by omega) (by omega) dL_law_829 (by decide) (fun c829 => ?_) (fun c829 => ?_)
                      · refine lv_aload_n hx hb dL_law_841 rfl (lv_at hl 13 rfl) ?_
                        refine lv_iload hx hb dL_law_842 (lv_at hl 6 rfl) ?_
                        refine p_V (As := [.int (nI (q))]) (rest := []) S (c_X2_isWhole l g AD LL EE LN lc ec hI.1 hI.2.1 hI.hLL hI.hEE q hq) (cwV 1 hts gL_law_X2_isWhole rfl rfl rfl (by decide +kernel) ⟨Nat.le_of_ble_eq_true rfl, Nat.le_of_ble_eq_true rfl⟩) hK (va_recv hK.1 hDk (ci := 2) (q0 := 0) rfl dk_me) hDk rfl hl.1 rfl (Nat.le_of_ble_eq_true rfl) dL_law_844 ⟨by show _ ≤ room_1.cells; omega, by show _ ≤ room_1.slots; omega⟩ ?_
                        refine br_eqB (tgt := 857) hx hb dL_law_847 (by decide) (fun c847 => ?_) (fun c847 => ?_)
                        · rw [← ebr] at hl
                          exact law_857 l hlt g hx hb hml hts hown hK hZ0 hX0 hL hJD (by omega) (by omega) hI hDk hW hS hq rfl (fun H locs ls hDk hW hS hl => back H locs ls hDk hW hS hl) ls (lv_sub hl [0, 1, 2, 3, 4, 6, 7, 5, 8, 9, 10, 11, 12, 13, 14] rfl)
                        · refine lv_iload hx hb dL_law_850 (lv_at hl 2 rfl) ?_
                          refine lv_toI (z := (-1)) (ch_whole c847) ?_
                          refine lv_if_lt (tgt := 857) hx hb dL_law_852 (by decide) (fun c852 => ?_) (fun c852 => ?_)
                          · rw [← ebr] at hl
                            exact law_857 l hlt g hx hb hml hts hown hK hZ0 hX0 hL hJD (by omega) (by omega) hI hDk hW hS hq rfl (fun H locs ls hDk hW hS hl => back H locs ls hDk hW hS hl) ls (lv_sub hl [0, 1, 2, 3, 4, 6, 7, 5, 8, 9, 10, 11, 12, 13, 14] rfl)
                          · exact absurd (by decide +kernel) c852
                      · refine lv_aload_n hx hb dL_law_832 rfl (lv_at hl 13 rfl) ?_
                        refine lv_iload hx hb dL_law_833 (lv_at hl 6 rfl) ?_
                        refine p_V (As := [.int (nI (q))]) (rest := []) S (c_X2_isWhole l g AD LL EE LN lc ec hI.1 hI.2.1 hI.hLL hI.hEE q hq) (cwV 1 hts gL_law_X2_isWhole rfl rfl rfl (by decide +kernel) ⟨Nat.le_of_ble_eq_true rfl, Nat.le_of_ble_eq_true rfl⟩) hK (va_recv hK.1 hDk (ci := 2) (q0 := 0) rfl dk_me) hDk rfl hl.1 rfl (Nat.le_of_ble_eq_true rfl) dL_law_835 ⟨by show _ ≤ room_1.cells; omega, by show _ ≤ room_1.slots; omega⟩ ?_
                        refine lv_toI (z := bI true) (by rw [hall q (by omega)]) ?_
                        refine br_eqB (tgt := 855) hx hb dL_law_838 (by decide) (fun c838 => ?_) (fun c838 => ?_)
                        · exact absurd c838 (by decide)
                        · refine lv_aload_n hx hb dL_law_841 rfl (lv_at hl 13 rfl) ?_
                          refine lv_iload hx hb dL_law_842 (lv_at hl 6 rfl) ?_
                          refine p_V (As := [.int (nI (q))]) (rest := []) S (c_X2_isWhole l g AD LL EE LN lc ec hI.1 hI.2.1 hI.hLL hI.hEE q hq) (cwV 1 hts gL_law_X2_isWhole rfl rfl rfl (by decide +kernel) ⟨Nat.le_of_ble_eq_true rfl, Nat.le_of_ble_eq_true rfl⟩) hK (va_recv hK.1 hDk (ci := 2) (q0 := 0) rfl dk_me) hDk rfl hl.1 rfl (Nat.le_of_ble_eq_true rfl) dL_law_844 ⟨by show _ ≤ room_1.cells; omega, by show _ ≤ room_1.slots; omega⟩ ?_
                          refine br_eqB (tgt := 857) hx hb dL_law_847 (by decide) (fun c847 => ?_) (fun c847 => ?_)
                          · rw [← ebr] at hl
                            exact law_857 l hlt g hx hb hml hts hown hK hZ0 hX0 hL hJD (by omega) (by omega) hI hDk hW hS hq rfl (fun H locs ls hDk hW hS hl => back H locs ls hDk hW hS hl) ls (lv_sub hl [0, 1, 2, 3, 4, 6, 7, 5, 8, 9, 10, 11, 12, 13, 14] rfl)
                          · refine lv_iload hx hb dL_law_850 (lv_at hl 2 rfl) ?_
                            refine lv_toI (z := (-1)) (ch_whole c847) ?_
                            refine lv_if_lt (tgt := 857) hx hb dL_law_852 (by decide) (fun c852 => ?_) (fun c852 => ?_)
                            · rw [← ebr] at hl
                              exact law_857 l hlt g hx hb hml hts hown hK hZ0 hX0 hL hJD (by omega) (by omega) hI hDk hW hS hq rfl (fun H locs ls hDk hW hS hl => back H locs ls hDk hW hS hl) ls (lv_sub hl [0, 1, 2, 3, 4, 6, 7, 5, 8, 9, 10, 11, 12, 13, 14] rfl)
                            · exact absurd (by decide +kernel) c852
                  · refine lv_aload_n hx hb dL_law_811 rfl (lv_at hl 13 rfl) ?_
                    refine lv_iload hx hb dL_law_812 (lv_at hl 6 rfl) ?_
                    refine p_V (As := [.int (nI (q))]) (rest := []) S (c_X2_isWhole l g AD LL EE LN lc ec hI.1 hI.2.1 hI.hLL hI.hEE q hq) (cwV 1 hts gL_law_X2_isWhole rfl rfl rfl (by decide +kernel) ⟨Nat.le_of_ble_eq_true rfl, Nat.le_of_ble_eq_true rfl⟩) hK (va_recv hK.1 hDk (ci := 2) (q0 := 0) rfl dk_me) hDk rfl hl.1 rfl (Nat.le_of_ble_eq_true rfl) dL_law_814 ⟨by show _ ≤ room_1.cells; omega, by show _ ≤ room_1.slots; omega⟩ ?_
                    refine lv_toI (z := bI false) (by rw [c808, hno]) ?_
                    refine br_neB (tgt := 855) hx hb dL_law_817 (by decide) (fun c817 => ?_) (fun c817 => ?_)
                    · exact absurd c817 (by decide)
                    · refine lv_iload hx hb dL_law_820 (lv_at hl 7 rfl) ?_
                      refine br_lt0 (a := j0) (tgt := 832) hx hb (by omega) dL_law_822 (by decide) (fun c822 => ?_) (fun c822 => ?_)
                      · exact c822.elim
                      · refine lv_iload hx hb dL_law_825 (lv_at hl 6 rfl) ?_
                        refine lv_iload hx hb dL_law_827 (lv_at hl 7 rfl) ?_
                        refine br_ge (a := q) (b := j0) (tgt := 841) hx hb (by omega) (by omega) dL_law_829 (by decide) (fun c829 => ?_) (fun c829 => ?_)
                        · refine lv_aload_n hx hb dL_law_841 rfl (lv_at hl 13 rfl) ?_
                          refine lv_iload hx hb dL_law_842 (lv_at hl 6 rfl) ?_
                          refine p_V (As := [.int (nI (q))]) (rest := []) S (c_X2_isWhole l g AD LL EE LN lc ec hI.1 hI.2.1 hI.hLL hI.hEE q hq) (cwV 1 hts gL_law_X2_isWhole rfl rfl rfl (by decide +kernel) ⟨Nat.le_of_ble_eq_true rfl, Nat.le_of_ble_eq_true rfl⟩) hK (va_recv hK.1 hDk (ci := 2) (q0 := 0) rfl dk_me) hDk rfl hl.1 rfl (Nat.le_of_ble_eq_true rfl) dL_law_844 ⟨by show _ ≤ room_1.cells; omega, by show _ ≤ room_1.slots; omega⟩ ?_
                          refine br_eqB (tgt := 857) hx hb dL_law_847 (by decide) (fun c847 => ?_) (fun c847 => ?_)
                          · rw [← ebr] at hl
                            exact law_857 l hlt g hx hb hml hts hown hK hZ0 hX0 hL hJD (by omega) (by omega) hI hDk hW hS hq rfl (fun H locs ls hDk hW hS hl => back H locs ls hDk hW hS hl) ls (lv_sub hl [0, 1, 2, 3, 4, 6, 7, 5, 8, 9, 10, 11, 12, 13, 14] rfl)
                          · refine lv_iload hx hb dL_law_850 (lv_at hl 2 rfl) ?_
                            refine lv_toI (z := (-1)) (ch_whole c847) ?_
                            refine lv_if_lt (tgt := 857) hx hb dL_law_852 (by decide) (fun c852 => ?_) (fun c852 => ?_)
                            · rw [← ebr] at hl
                              exact law_857 l hlt g hx hb hml hts hown hK hZ0 hX0 hL hJD (by omega) (by omega) hI hDk hW hS hq rfl (fun H locs ls hDk hW hS hl => back H locs ls hDk hW hS hl) ls (lv_sub hl [0, 1, 2, 3, 4, 6, 7, 5, 8, 9, 10, 11, 12, 13, 14] rfl)
                            · exact absurd (by decide +kernel) c852
                        · refine lv_aload_n hx hb dL_law_832 rfl (lv_at hl 13 rfl) ?_
                          refine lv_iload hx hb dL_law_833 (lv_at hl 6 rfl) ?_
                          refine p_V (As := [.int (nI (q))]) (rest := []) S (c_X2_isWhole l g AD LL EE LN lc ec hI.1 hI.2.1 hI.hLL hI.hEE q hq) (cwV 1 hts gL_law_X2_isWhole rfl rfl rfl (by decide +kernel) ⟨Nat.le_of_ble_eq_true rfl, Nat.le_of_ble_eq_true rfl⟩) hK (va_recv hK.1 hDk (ci := 2) (q0 := 0) rfl dk_me) hDk rfl hl.1 rfl (Nat.le_of_ble_eq_true rfl) dL_law_835 ⟨by show _ ≤ room_1.cells; omega, by show _ ≤ room_1.slots; omega⟩ ?_
                          refine lv_toI (z := bI true) (by rw [hall q (by omega)]) ?_
                          refine br_eqB (tgt := 855) hx hb dL_law_838 (by decide) (fun c838 => ?_) (fun c838 => ?_)
                          · exact absurd c838 (by decide)
                          · refine lv_aload_n hx hb dL_law_841 rfl (lv_at hl 13 rfl) ?_
                            refine lv_iload hx hb dL_law_842 (lv_at hl 6 rfl) ?_
                            refine p_V (As := [.int (nI (q))]) (rest := []) S (c_X2_isWhole l g AD LL EE LN lc ec hI.1 hI.2.1 hI.hLL hI.hEE q hq) (cwV 1 hts gL_law_X2_isWhole rfl rfl rfl (by decide +kernel) ⟨Nat.le_of_ble_eq_true rfl, Nat.le_of_ble_eq_true rfl⟩) hK (va_recv hK.1 hDk (ci := 2) (q0 := 0) rfl dk_me) hDk rfl hl.1 rfl (Nat.le_of_ble_eq_true rfl) dL_law_844 ⟨by show _ ≤ room_1.cells; omega, by show _ ≤ room_1.slots; omega⟩ ?_
                            refine br_eqB (tgt := 857) hx hb dL_law_847 (by decide) (fun c847 => ?_) (fun c847 => ?_)
                            · rw [← ebr] at hl
                              exact law_857 l hlt g hx hb hml hts hown hK hZ0 hX0 hL hJD (by omega) (by omega) hI hDk hW hS hq rfl (fun H locs ls hDk hW hS hl => back H locs ls hDk hW hS hl) ls (lv_sub hl [0, 1, 2, 3, 4, 6, 7, 5, 8, 9, 10, 11, 12, 13, 14] rfl)
                            · refine lv_iload hx hb dL_law_850 (lv_at hl 2 rfl) ?_
                              refine lv_toI (z := (-1)) (ch_whole c847) ?_
                              refine lv_if_lt (tgt := 857) hx hb dL_law_852 (by decide) (fun c852 => ?_) (fun c852 => ?_)
                              · rw [← ebr] at hl
                                exact law_857 l hlt g hx hb hml hts hown hK hZ0 hX0 hL hJD (by omega) (by omega) hI hDk hW hS hq rfl (fun H locs ls hDk hW hS hl => back H locs ls hDk hW hS hl) ls (lv_sub hl [0, 1, 2, 3, 4, 6, 7, 5, 8, 9, 10, 11, 12, 13, 14] rfl)
                              · exact absurd (by decide +kernel) c852
            · refine lv_iconst (v := bI true) hx hb dL_law_796 (by decide +kernel) ?_
              refine lv_goto (tgt := 801) hx hb dL_law_797 (by decide) ?_
              refine lv_icmp_ne (tgt := 855) hx hb dL_law_801 (by decide) (fun c801 => ?_) (fun c801 => ?_)
              · exact absurd (congrArg bI (show ftD LL EE LN q = _ from by first | exact decide_eq_true c793 | exact decide_eq_false c793)) c801
              · rcases hbr with ⟨ebr, hall⟩ | ⟨j0, hj0, ebr, hno, hall⟩
                · have hl : lv_has ls 18 [(15, .int (fsF (toD LL EE LN q) 8 0)), (14, .int (nI (ctN (toD LL EE LN q) 8))), (13, .int (chD LL EE LN q)), (12, .int (nI ((max ((LL (LN q)).2.2) ((TT q).2) + 4) / 5))), (11, .int (nI (LN q))), (8, .int ((EE q).2.2.2.2.2.2.1)), (10, .int (nI (q))), (9, .int ((-1))), (7, .int (nI (lc))), (5, .long (D0)), (4, .int (x)), (3, .int (nI (t))), (2, .ref (so)), (1, .ref (AD 0)), (0, .ref (b))] := by rw [ebr] at hl; exact hl
                  refine lv_iload hx hb dL_law_804 (lv_at hl 6 rfl) ?_
                  refine lv_iload hx hb dL_law_806 (lv_at hl 7 rfl) ?_
                  refine lv_icmp_ne (tgt := 820) hx hb dL_law_808 (by decide) (fun c808 => ?_) (fun c808 => ?_)
                  · refine lv_iload hx hb dL_law_820 (lv_at hl 7 rfl) ?_
                    refine lv_if_lt (tgt := 832) hx hb dL_law_822 (by decide) (fun c822 => ?_) (fun c822 => ?_)
                    · refine lv_aload_n hx hb dL_law_832 rfl (lv_at hl 13 rfl) ?_
                      refine lv_iload hx hb dL_law_833 (lv_at hl 6 rfl) ?_
                      refine p_V (As := [.int (nI (q))]) (rest := []) S (c_X2_isWhole l g AD LL EE LN lc ec hI.1 hI.2.1 hI.hLL hI.hEE q hq) (cwV 1 hts gL_law_X2_isWhole rfl rfl rfl (by decide +kernel) ⟨Nat.le_of_ble_eq_true rfl, Nat.le_of_ble_eq_true rfl⟩) hK (va_recv hK.1 hDk (ci := 2) (q0 := 0) rfl dk_me) hDk rfl hl.1 rfl (Nat.le_of_ble_eq_true rfl) dL_law_835 ⟨by show _ ≤ room_1.cells; omega, by show _ ≤ room_1.slots; omega⟩ ?_
                      refine lv_toI (z := bI true) (by rw [hall q hq]) ?_
                      refine br_eqB (tgt := 855) hx hb dL_law_838 (by decide) (fun c838 => ?_) (fun c838 => ?_)
                      · exact absurd c838 (by decide)
                      · refine lv_aload_n hx hb dL_law_841 rfl (lv_at hl 13 rfl) ?_
                        refine lv_iload hx hb dL_law_842 (lv_at hl 6 rfl) ?_
                        refine p_V (As := [.int (nI (q))]) (rest := []) S (c_X2_isWhole l g AD LL EE LN lc ec hI.1 hI.2.1 hI.hLL hI.hEE q hq) (cwV 1 hts gL_law_X2_isWhole rfl rfl rfl (by decide +kernel) ⟨Nat.le_of_ble_eq_true rfl, Nat.le_of_ble_eq_true rfl⟩) hK (va_recv hK.1 hDk (ci := 2) (q0 := 0) rfl dk_me) hDk rfl hl.1 rfl (Nat.le_of_ble_eq_true rfl) dL_law_844 ⟨by show _ ≤ room_1.cells; omega, by show _ ≤ room_1.slots; omega⟩ ?_
                        refine lv_toI (z := bI true) (by rw [hall q hq]) ?_
                        refine br_eqB (tgt := 857) hx hb dL_law_847 (by decide) (fun c847 => ?_) (fun c847 => ?_)
                        · exact absurd c847 (by decide)
                        · refine lv_iload hx hb dL_law_850 (lv_at hl 2 rfl) ?_
                          refine lv_toI (z := (-1)) (ch_whole (hall q hq)) ?_
                          refine lv_if_lt (tgt := 857) hx hb dL_law_852 (by decide) (fun c852 => ?_) (fun c852 => ?_)
                          · rw [← ebr] at hl
                            exact law_857 l hlt g hx hb hml hts hown hK hZ0 hX0 hL hJD (by omega) (by omega) hI hDk hW hS hq rfl (fun H locs ls hDk hW hS hl => back H locs ls hDk hW hS hl) ls (lv_sub hl [0, 1, 2, 3, 4, 6, 7, 5, 8, 9, 10, 11, 12, 13, 14] rfl)
                          · exact absurd (by decide +kernel) c852
                    · exact absurd (by decide +kernel) c822
                  · exact absurd c808 (law_nm1 _ (by omega))
                · have hl : lv_has ls 18 [(15, .int (fsF (toD LL EE LN q) 8 0)), (14, .int (nI (ctN (toD LL EE LN q) 8))), (13, .int (chD LL EE LN q)), (12, .int (nI ((max ((LL (LN q)).2.2) ((TT q).2) + 4) / 5))), (11, .int (nI (LN q))), (8, .int ((EE q).2.2.2.2.2.2.1)), (10, .int (nI (q))), (9, .int (nI (j0))), (7, .int (nI (lc))), (5, .long (D0)), (4, .int (x)), (3, .int (nI (t))), (2, .ref (so)), (1, .ref (AD 0)), (0, .ref (b))] := by rw [ebr] at hl; exact hl
                  refine lv_iload hx hb dL_law_804 (lv_at hl 6 rfl) ?_
                  refine lv_iload hx hb dL_law_806 (lv_at hl 7 rfl) ?_
                  refine br_ne (a := q) (b := j0) (tgt := 820) hx hb (by omega) (by omega) dL_law_808 (by decide) (fun c808 => ?_) (fun c808 => ?_)
                  · refine lv_iload hx hb dL_law_820 (lv_at hl 7 rfl) ?_
                    refine br_lt0 (a := j0) (tgt := 832) hx hb (by omega) dL_law_822 (by decide) (fun c822 => ?_) (fun c822 => ?_)
                    · exact c822.elim
                    · refine lv_iload hx hb dL_law_825 (lv_at hl 6 rfl) ?_
                      refine lv_iload hx hb dL_law_827 (lv_at hl 7 rfl) ?_
                      refine br_ge (a := q) (b := j0) (tgt := 841) hx hb (by omega) (by omega) dL_law_829 (by decide) (fun c829 => ?_) (fun c829 => ?_)
                      · refine lv_aload_n hx hb dL_law_841 rfl (lv_at hl 13 rfl) ?_
                        refine lv_iload hx hb dL_law_842 (lv_at hl 6 rfl) ?_
                        refine p_V (As := [.int (nI (q))]) (rest := []) S (c_X2_isWhole l g AD LL EE LN lc ec hI.1 hI.2.1 hI.hLL hI.hEE q hq) (cwV 1 hts gL_law_X2_isWhole rfl rfl rfl (by decide +kernel) ⟨Nat.le_of_ble_eq_true rfl, Nat.le_of_ble_eq_true rfl⟩) hK (va_recv hK.1 hDk (ci := 2) (q0 := 0) rfl dk_me) hDk rfl hl.1 rfl (Nat.le_of_ble_eq_true rfl) dL_law_844 ⟨by show _ ≤ room_1.cells; omega, by show _ ≤ room_1.slots; omega⟩ ?_
                        refine br_eqB (tgt := 857) hx hb dL_law_847 (by decide) (fun c847 => ?_) (fun c847 => ?_)
                        · rw [← ebr] at hl
                          exact law_857 l hlt g hx hb hml hts hown hK hZ0 hX0 hL hJD (by omega) (by omega) hI hDk hW hS hq rfl (fun H locs ls hDk hW hS hl => back H locs ls hDk hW hS hl) ls (lv_sub hl [0, 1, 2, 3, 4, 6, 7, 5, 8, 9, 10, 11, 12, 13, 14] rfl)
                        · refine lv_iload hx hb dL_law_850 (lv_at hl 2 rfl) ?_
                          refine lv_toI (z := (-1)) (ch_whole c847) ?_
                          refine lv_if_lt (tgt := 857) hx hb dL_law_852 (by decide) (fun c852 => ?_) (fun c852 => ?_)
                          · rw [← ebr] at hl
                            exact law_857 l hlt g hx hb hml hts hown hK hZ0 hX0 hL hJD (by omega) (by omega) hI hDk hW hS hq rfl (fun H locs ls hDk hW hS hl => back H locs ls hDk hW hS hl) ls (lv_sub hl [0, 1, 2, 3, 4, 6, 7, 5, 8, 9, 10, 11, 12, 13, 14] rfl)
                          · exact absurd (by decide +kernel) c852
                      · refine lv_aload_n hx hb dL_law_832 rfl (lv_at hl 13 rfl) ?_
                        refine lv_iload hx hb dL_law_833 (lv_at hl 6 rfl) ?_
                        refine p_V (As := [.int (nI (q))]) (rest := []) S (c_X2_isWhole l g AD LL EE LN lc ec hI.1 hI.2.1 hI.hLL hI.hEE q hq) (cwV 1 hts gL_law_X2_isWhole rfl rfl rfl (by decide +kernel) ⟨Nat.le_of_ble_eq_true rfl, Nat.le_of_ble_eq_true rfl⟩) hK (va_recv hK.1 hDk (ci := 2) (q0 := 0) rfl dk_me) hDk rfl hl.1 rfl (Nat.le_of_ble_eq_true rfl) dL_law_835 ⟨by show _ ≤ room_1.cells; omega, by show _ ≤ room_1.slots; omega⟩ ?_
                        refine lv_toI (z := bI true) (by rw [hall q (by omega)]) ?_
                        refine br_eqB (tgt := 855) hx hb dL_law_838 (by decide) (fun c838 => ?_) (fun c838 => ?_)
                        · exact absurd c838 (by decide)
                        · refine lv_aload_n hx hb dL_law_841 rfl (lv_at hl 13 rfl) ?_
                          refine lv_iload hx hb dL_law_842 (lv_at hl 6 rfl) ?_
                          refine p_V (As := [.int (nI (q))]) (rest := []) S (c_X2_isWhole l g AD LL EE LN lc ec hI.1 hI.2.1 hI.hLL hI.hEE q hq) (cwV 1 hts gL_law_X2_isWhole rfl rfl rfl (by decide +kernel) ⟨Nat.le_of_ble_eq_true rfl, Nat.le_of_ble_eq_true rfl⟩) hK (va_recv hK.1 hDk (ci := 2) (q0 := 0) rfl dk_me) hDk rfl hl.1 rfl (Nat.le_of_ble_eq_true rfl) dL_law_844 ⟨by show _ ≤ room_1.cells; omega, by show _ ≤ room_1.slots; omega⟩ ?_
                          refine br_eqB (tgt := 857) hx hb dL_law_847 (by decide) (fun c847 => ?_) (fun c847 => ?_)
                          · rw [← ebr] at hl
                            exact law_857 l hlt g hx hb hml hts hown hK hZ0 hX0 hL hJD (by omega) (by omega) hI hDk hW hS hq rfl (fun H locs ls hDk hW hS hl => back H locs ls hDk hW hS hl) ls (lv_sub hl [0, 1, 2, 3, 4, 6, 7, 5, 8, 9, 10, 11, 12, 13, 14] rfl)
                          · refine lv_iload hx hb dL_law_850 (lv_at hl 2 rfl) ?_
                            refine lv_toI (z := (-1)) (ch_whole c847) ?_
                            refine lv_if_lt (tgt := 857) hx hb dL_law_852 (by decide) (fun c852 => ?_) (fun c852 => ?_)
                            · rw [← ebr] at hl
                              exact law_857 l hlt g hx hb hml hts hown hK hZ0 hX0 hL hJD (by omega) (by omega) hI hDk hW hS hq rfl (fun H locs ls hDk hW hS hl => back H locs ls hDk hW hS hl) ls (lv_sub hl [0, 1, 2, 3, 4, 6, 7, 5, 8, 9, 10, 11, 12, 13, 14] rfl)
                            · exact absurd (by decide +kernel) c852
                  · refine lv_aload_n hx hb dL_law_811 rfl (lv_at hl 13 rfl) ?_
                    refine lv_iload hx hb dL_law_812 (lv_at hl 6 rfl) ?_
                    refine p_V (As := [.int (nI (q))]) (rest := []) S (c_X2_isWhole l g AD LL EE LN lc ec hI.1 hI.2.1 hI.hLL hI.hEE q hq) (cwV 1 hts gL_law_X2_isWhole rfl rfl rfl (by decide +kernel) ⟨Nat.le_of_ble_eq_true rfl, Nat.le_of_ble_eq_true rfl⟩) hK (va_recv hK.1 hDk (ci := 2) (q0 := 0) rfl dk_me) hDk rfl hl.1 rfl (Nat.le_of_ble_eq_true rfl) dL_law_814 ⟨by show _ ≤ room_1.cells; omega, by show _ ≤ room_1.slots; omega⟩ ?_
                    refine lv_toI (z := bI false) (by rw [c808, hno]) ?_
                    refine br_neB (tgt := 855) hx hb dL_law_817 (by decide) (fun c817 => ?_) (fun c817 => ?_)
                    · exact absurd c817 (by decide)
                    · refine lv_iload hx hb dL_law_820 (lv_at hl 7 rfl) ?_
                      refine br_lt0 (a := j0) (tgt := 832) hx hb (by omega) dL_law_822 (by decide) (fun c822 => ?_) (fun c822 => ?_)
                      · exact c822.elim
                      · refine lv_iload hx hb dL_law_825 (lv_at hl 6 rfl) ?_
                        refine lv_iload hx hb dL_law_827 (lv_at hl 7 rfl) ?_
                        refine br_ge (a := q) (b := j0) (tgt := 841) hx hb (by omega) (by omega) dL_law_829 (by decide) (fun c829 => ?_) (fun c829 => ?_)
                        · refine lv_aload_n hx hb dL_law_841 rfl (lv_at hl 13 rfl) ?_
                          refine lv_iload hx hb dL_law_842 (lv_at hl 6 rfl) ?_
                          refine p_V (As := [.int (nI (q))]) (rest := []) S (c_X2_isWhole l g AD LL EE LN lc ec hI.1 hI.2.1 hI.hLL hI.hEE q hq) (cwV 1 hts gL_law_X2_isWhole rfl rfl rfl (by decide +kernel) ⟨Nat.le_of_ble_eq_true rfl, Nat.le_of_ble_eq_true rfl⟩) hK (va_recv hK.1 hDk (ci := 2) (q0 := 0) rfl dk_me) hDk rfl hl.1 rfl (Nat.le_of_ble_eq_true rfl) dL_law_844 ⟨by show _ ≤ room_1.cells; omega, by show _ ≤ room_1.slots; omega⟩ ?_
                          refine br_eqB (tgt := 857) hx hb dL_law_847 (by decide) (fun c847 => ?_) (fun c847 => ?_)
                          · rw [← ebr] at hl
                            exact law_857 l hlt g hx hb hml hts hown hK hZ0 hX0 hL hJD (by omega) (by omega) hI hDk hW hS hq rfl (fun H locs ls hDk hW hS hl => back H locs ls hDk hW hS hl) ls (lv_sub hl [0, 1, 2, 3, 4, 6, 7, 5, 8, 9, 10, 11, 12, 13, 14] rfl)
                          · refine lv_iload hx hb dL_law_850 (lv_at hl 2 rfl) ?_
                            refine lv_toI (z := (-1)) (ch_whole c847) ?_
                            refine lv_if_lt (tgt := 857) hx hb dL_law_852 (by decide) (fun c852 => ?_) (fun c852 => ?_)
                            · rw [← ebr] at hl
                              exact law_857 l hlt g hx hb hml hts hown hK hZ0 hX0 hL hJD (by omega) (by omega) hI hDk hW hS hq rfl (fun H locs ls hDk hW hS hl => back H locs ls hDk hW hS hl) ls (lv_sub hl [0, 1, 2, 3, 4, 6, 7, 5, 8, 9, 10, 11, 12, 13, 14] rfl)
                            · exact absurd (by decide +kernel) c852
                        · refine lv_aload_n hx hb dL_law_832 rfl (lv_at hl 13 rfl) ?_
                          refine lv_iload hx hb dL_law_833 (lv_at hl 6 rfl) ?_
                          refine p_V (As := [.int (nI (q))]) (rest := []) S (c_X2_isWhole l g AD LL EE LN lc ec hI.1 hI.2.1 hI.hLL hI.hEE q hq) (cwV 1 hts gL_law_X2_isWhole rfl rfl rfl (by decide +kernel) ⟨Nat.le_of_ble_eq_true rfl, Nat.le_of_ble_eq_true rfl⟩) hK (va_recv hK.1 hDk (ci := 2) (q0 := 0) rfl dk_me) hDk rfl hl.1 rfl (Nat.le_of_ble_eq_true rfl) dL_law_835 ⟨by show _ ≤ room_1.cells; omega, by show _ ≤ room_1.slots; omega⟩ ?_
                          refine lv_toI (z := bI true) (by rw [hall q (by omega)]) ?_
                          refine br_eqB (tgt := 855) hx hb dL_law_838 (by decide) (fun c838 => ?_) (fun c838 => ?_)
                          · exact absurd c838 (by decide)
                          · refine lv_aload_n hx hb dL_law_841 rfl (lv_at hl 13 rfl) ?_
                            refine lv_iload hx hb dL_law_842 (lv_at hl 6 rfl) ?_
                            refine p_V (As := [.int (nI (q))]) (rest := []) S (c_X2_isWhole l g AD LL EE LN lc ec hI.1 hI.2.1 hI.hLL hI.hEE q hq) (cwV 1 hts gL_law_X2_isWhole rfl rfl rfl (by decide +kernel) ⟨Nat.le_of_ble_eq_true rfl, Nat.le_of_ble_eq_true rfl⟩) hK (va_recv hK.1 hDk (ci := 2) (q0 := 0) rfl dk_me) hDk rfl hl.1 rfl (Nat.le_of_ble_eq_true rfl) dL_law_844 ⟨by show _ ≤ room_1.cells; omega, by show _ ≤ room_1.slots; omega⟩ ?_
                            refine br_eqB (tgt := 857) hx hb dL_law_847 (by decide) (fun c847 => ?_) (fun c847 => ?_)
                            · rw [← ebr] at hl
                              exact law_857 l hlt g hx hb hml hts hown hK hZ0 hX0 hL hJD (by omega) (by omega) hI hDk hW hS hq rfl (fun H locs ls hDk hW hS hl => back H locs ls hDk hW hS hl) ls (lv_sub hl [0, 1, 2, 3, 4, 6, 7, 5, 8, 9, 10, 11, 12, 13, 14] rfl)
                            · refine lv_iload hx hb dL_law_850 (lv_at hl 2 rfl) ?_
                              refine lv_toI (z := (-1)) (ch_whole c847) ?_
                              refine lv_if_lt (tgt := 857) hx hb dL_law_852 (by decide) (fun c852 => ?_) (fun c852 => ?_)
                              · rw [← ebr] at hl
                                exact law_857 l hlt g hx hb hml hts hown hK hZ0 hX0 hL hJD (by omega) (by omega) hI hDk hW hS hq rfl (fun H locs ls hDk hW hS hl => back H locs ls hDk hW hS hl) ls (lv_sub hl [0, 1, 2, 3, 4, 6, 7, 5, 8, 9, 10, 11, 12, 13, 14] rfl)
                              · exact absurd (by decide +kernel) c852

set_option maxHeartbeats 4000000 in
set_option maxRecDepth 100000 in
/-- the letters -/
theorem law_94 {p : Program} {e : Env} {s : State} {m : MethodId} {below : List Frame} {meth : Method} {c : Code} {Q : State → Prop} (l : Launch) (hlt : l.stackTraces = false) (g : gT) {b L : Nat} {xs : Nat → Int32} {B so : Nat} {AD : Nat → Nat} (hx : p.tables.exec = Jvm.exec) (hb : c.code = cL_law) (hml : c.maxLocals = 18) (hts : ∀ w ∈ wsL_law, w.before #[Value.ref b] s = true) (hown : s.vm.findClass RL = some m.cls) (hK : KK g s) (hZ0 : ZB s.heap.size s s.heap) (hX0 : va_X b L xs s s.heap) (hL : L < 1000) (hJD : JD s.heap.size B AD)
    {LL : Nat → ltT} {EE : Nat → evT} {LN : Nat → Nat} {TT : Nat → (Nat → Int32) × Nat} {lc ec la ea : Nat} {ra xa ta : Nat → Nat} {C Z : Nat} (hC : C ≤ 90000) (hZ : Z ≤ 900000) (hlc12 : lc ≤ 12) (hBso : B ≤ so)
    {t : Nat} {x : Int32} {D0 : Int64}
    (kx : ∀ (M : Nat → ltT) (H : Heap) (locs : List Loc) (ls : Array Slot), smL LL M → Iv M EE LN TT lc ec → va_P (gD g) vwCl (wsD g AD M EE lc ec) H → SW g B so la ea ra xa ta M EE TT lc ec H → va_S (bA s.heap.size) s.heap H locs → lv_has ls 18 [(7, .int (nI (lc))), (5, .long (D0)), (4, .int (x)), (3, .int (nI (t))), (2, .ref (so)), (1, .ref (AD 0)), (0, .ref (b))] → W p l e room_1 s m #[Value.ref b] below meth c H locs (C + 1440) (Z + 57600) Q (F0 m 651 ls [])) : ∀ (k1 k : Nat) (M : Nat → ltT) (H : Heap) (locs : List Loc) (ls : Array Slot), lc - k < k1 → k ≤ lc → smL LL M → Iv M EE LN TT lc ec → va_P (gD g) vwCl (wsD g AD M EE lc ec) H → SW g B so la ea ra xa ta M EE TT lc ec H → va_S (bA s.heap.size) s.heap H locs → lv_has ls 18 [(8, .int (nI (k))), (7, .int (nI (lc))), (5, .long (D0)), (4, .int (x)), (3, .int (nI (t))), (2, .ref (so)), (1, .ref (AD 0)), (0, .ref (b))] → W p l e room_1 s m #[Value.ref b] below meth c H locs (C + 120 * k) (Z + 4800 * k) Q (F0 m 94 ls []) := by
  intro k1
  induction k1 with
  | zero => intro k M H locs ls hFu; exact absurd hFu (Nat.not_lt_zero _)
  | succ k1 ih =>
    intro k M H locs ls hFu hLe hsm hI hDk hW hS hl
    refine lv_iload hx hb dL_law_94 (lv_at hl 0 rfl) ?_
    refine lv_iload hx hb dL_law_96 (lv_at hl 1 rfl) ?_
    refine br_ge (a := k) (b := lc) (tgt := 651) hx hb (by omega) (by omega) dL_law_98 (by decide) (fun c98 => ?_) (fun hk => ?_)
    · exact W.widen (by omega) (by omega) (kx M H locs ls hsm hI hDk hW hS (lv_sub hl [1, 2, 3, 4, 5, 6, 7] rfl))
    · refine law_101 l hlt g hx hb hml hts hown hK hZ0 hX0 hL hJD (by omega) (by omega) hI hDk hW hS hk (fun ls hl => ?_) ls hl
      refine law_189 l hlt g hx hb hml hts hown hK hZ0 hX0 hL hJD (by omega) (by omega) hI hDk hW hS hk (fun {t6} ht1 ht2 ls hl => ?_) ls hl
      refine law_283 l hlt g hx hb hml hts hown hK hZ0 hX0 hL hJD (by omega) (by omega) hI hDk hW hS hk ht1 ht2 (fun ls hl => ?_) ls hl
      refine law_354 l hlt g hx hb hml hts hown hK hZ0 hX0 hL hJD (by omega) (by omega) hI hDk hW hS hk ht1 ht2 (fun M2 H locs ls hsm2 hI hDk hW hS hl => ?_) ls hl
      rw [← (hsm2 k).1, ← (hsm2 k).2] at hl
      refine law_393 l hlt g hx hb hml hts hown hK hZ0 hX0 hL hJD (by omega) (by omega) hI hDk hW hS hk (fun ls hl => ?_) ls hl
      refine law_516 l hlt g hx hb hml hts hown hK hZ0 hX0 hL hJD (by omega) (by omega) hI hDk hW hS hk (fun H locs ls hDk hW hS hl => ?_) ls hl
      refine lv_iinc (v := nI (k + 1)) (lv' := [(8, .int (nI (k + 1))), (7, .int (nI (lc))), (5, .long (D0)), (4, .int (x)), (3, .int (nI (t))), (2, .ref (so)), (1, .ref (AD 0)), (0, .ref (b))]) hx hb dL_law_645 hl (k := 0) rfl (nI_1 _) (by decide) rfl (fun ls hl => ?_)
      refine lv_goto (tgt := 94) hx hb dL_law_648 (by decide) ?_
      exact W.widen (by omega) (by omega) (ih (k + 1) M2 H _ _ (by omega) (by omega) (hsm.trans hsm2) hI hDk hW hS (lv_sub hl [0, 1, 2, 3, 4, 5, 6, 7] rfl))

theorem va_S.ch {A : Nat → Prop} {H0 H : Heap} {locs : List Loc} (h : va_S A H0 H locs) : CH A H0 H := ⟨h.1, h.2.1⟩
set_option maxHeartbeats 4000000 in
set_option maxRecDepth 100000 in
/-- more is done -/
theorem law_44 {p : Program} {e : Env} {s : State} {m : MethodId} {below : List Frame} {meth : Method} {c : Code} {Q : State → Prop} (l : Launch) (hlt : l.stackTraces = false) (g : gT) {b L : Nat} {xs : Nat → Int32} {B so : Nat} {AD : Nat → Nat} (hx : p.tables.exec = Jvm.exec) (hb : c.code = cL_law) (hml : c.maxLocals = 18) (hts : ∀ w ∈ wsL_law, w.before #[Value.ref b] s = true) (hown : s.vm.findClass RL = some m.cls) (hK : KK g s) (hZ0 : ZB s.heap.size s s.heap) (hX0 : va_X b L xs s s.heap) (hL : L < 1000) (hJD : JD s.heap.size B AD)
    {C Z : Nat} (hC : C ≤ 90000) (hZ : Z ≤ 900000) {t : Nat} {x : Int32}
    (kx : ∀ (LL : Nat → ltT) (EE : Nat → evT) (LN : Nat → Nat) (TT : Nat → (Nat → Int32) × Nat) (lc ec la ea : Nat) (ra xa ta : Nat → Nat) (H : Heap) (locs : List Loc) (ls : Array Slot), JW g B AD so LL EE LN TT lc ec la ea ra xa ta H → va_S (bA s.heap.size) s.heap H locs → lv_has ls 18 [(4, .int (x)), (3, .int (nI (t))), (2, .ref (so)), (1, .ref (AD 0)), (0, .ref (b))] → W p l e room_1 s m #[Value.ref b] below meth c H locs (C + 35) (Z + 1100) Q (F0 m 79 ls [])) : ∀ (k1 i : Nat) (LL : Nat → ltT) (EE : Nat → evT) (LN : Nat → Nat) (TT : Nat → (Nat → Int32) × Nat) (lc ec la ea : Nat) (ra xa ta : Nat → Nat) (H : Heap) (locs : List Loc) (ls : Array Slot), 5 - i < k1 → i ≤ 5 → JW g B AD so LL EE LN TT lc ec la ea ra xa ta H → va_S (bA s.heap.size) s.heap H locs → lv_has ls 18 [(5, .int (nI (i))), (4, .int (x)), (3, .int (nI (t))), (2, .ref (so)), (1, .ref (AD 0)), (0, .ref (b))] → W p l e room_1 s m #[Value.ref b] below meth c H locs (C + 7 * i) (Z + 220 * i) Q (F0 m 44 ls []) := by
  have S : CallFix p m c cL_law 18 s #[Value.ref b] wsL_law RL := ⟨hx, hb, hml, hown, hts⟩
  have rC : 200000 ≤ room_1.cells := Nat.le_of_ble_eq_true rfl
  have rS : 2000000 ≤ room_1.slots := Nat.le_of_ble_eq_true rfl
  have hB0B : s.heap.size ≤ B := hJD.2.2

  intro k1
  induction k1 with
  | zero => intro i LL EE LN TT lc ec la ea ra xa ta H locs ls hFu; exact absurd hFu (Nat.not_lt_zero _)
  | succ k1 ih =>
    intro i LL EE LN TT lc ec la ea ra xa ta H locs ls hFu hLe hJ hS hl
    refine lv_iload hx hb dL_law_44 (lv_at hl 0 rfl) ?_
    refine lv_iconst (v := nI (5)) hx hb dL_law_46 (by decide +kernel) ?_
    refine br_ge (a := i) (b := 5) (tgt := 79) hx hb (by omega) (by omega) dL_law_47 (by decide) (fun c47 => ?_) (fun c47 => ?_)
    · exact W.widen (by omega) (by omega) (kx _ _ _ _ _ _ _ _ _ _ _ H locs ls hJ hS (lv_sub hl [1, 2, 3, 4, 5] rfl))
    · refine lv_aload_n hx hb dL_law_50 rfl (lv_at hl 4 rfl) ?_
      refine lv_aload_n hx hb dL_law_51 rfl (lv_at hl 3 rfl) ?_
      refine lv_iload hx hb dL_law_52 (lv_at hl 1 rfl) ?_
      refine lv_iconst (v := 3) hx hb dL_law_54 (by decide +kernel) ?_
      refine lv_iload hx hb dL_law_55 (lv_at hl 0 rfl) ?_
      refine lv_imul hx hb dL_law_57 ?_
      refine lv_ishr hx hb dL_law_58 ?_
      refine lv_bipush (v := 29) hx hb dL_law_59 (by decide +kernel) ?_
      refine lv_iload hx hb dL_law_61 (lv_at hl 0 rfl) ?_
      refine lv_imul hx hb dL_law_63 ?_
      refine lv_iadd hx hb dL_law_64 ?_
      have hZZ := hZ0.kept (va_S.ch hS) (fun q z => z)
      have hBH : B ≤ H.size := Nat.le_trans hJ.2.2.2.1.1 (Nat.le_of_lt (one_lt hJ.2.2.1.1))
      refine a_SW (As := [.ref (AD 0), .ref (so), .int (((x) >>> (((3) * (nI (i))) &&& 31)) + ((29) * (nI (i))))]) (rest := []) S (c_L_act l hlt g H.size (((x) >>> (((3) * (nI (i))) &&& 31)) + ((29) * (nI (i)))) hJD) (vx_cwSW 3 hts gL_law_L_act rfl rfl rfl (by decide +kernel) ⟨Nat.le_of_ble_eq_true rfl, Nat.le_of_ble_eq_true rfl⟩) hK hZZ ⟨hJ, hBH⟩ hS (fun q hq => hq) (fun q hq => hq) rfl hl.1 rfl (Nat.le_of_ble_eq_true rfl) dL_law_65 ⟨by show _ ≤ room_1.cells; omega, by show _ ≤ room_1.slots; omega⟩ (fun v H locs hpost hC9 hS => ?_)
      obtain ⟨rfl, LL2, EE2, LN2, TT2, lc2, ec2, la2, ea2, ra2, xa2, ta2, hJ, h1, h2⟩ := hpost
      refine lv_if_ne (tgt := 73) hx hb dL_law_68 (by decide) (fun c68 => ?_) (fun c68 => ?_)
      · refine lv_iinc (v := nI (i + 1)) (lv' := [(5, .int (nI (i + 1))), (4, .int (x)), (3, .int (nI (t))), (2, .ref (so)), (1, .ref (AD 0)), (0, .ref (b))]) hx hb dL_law_73 hl (k := 0) rfl (nI_1 _) (by decide) rfl (fun ls hl => ?_)
        refine lv_goto (tgt := 44) hx hb dL_law_76 (by decide) ?_
        exact W.widen (by omega) (by omega) (ih (i + 1) _ _ _ _ _ _ _ _ _ _ _ H _ _ (by omega) (by omega) hJ hS (lv_sub hl [0, 1, 2, 3, 4, 5] rfl))
      · exact absurd c68 (by decide +kernel)
