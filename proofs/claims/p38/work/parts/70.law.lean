/-! THE LAW'S WALK: its loops and blocks -/
theorem cn_go {f : Nat → Int32} {x : Int32} {i : Nat} (b : Bool) (h : b = decide (f i = x)) : nI (cnN f x i) + bI b = nI (cnN f x (i + 1)) := by
  subst h
  rw [cnN]
  by_cases q : f i = x
  · rw [if_pos q, decide_eq_true q]; exact nI_1 _
  · rw [if_neg q, decide_eq_false q]; show nI (cnN f x i) + 0 = _; exact Int32.add_zero _
theorem ps_go {f : Nat → Int32} {t i j : Nat} {a : Nat} (b : Bool) (h : b = decide (wnF f i t = wnF f j t)) : nI (a + ctN (fun u9 => paP f t false u9 i) j) + bI b = nI (a + ctN (fun u9 => paP f t false u9 i) (j + 1)) := by
  have e : paP f t false j i = b := by
    subst h
    unfold paP
    rw [Bool.false_and, Bool.not_false, Bool.and_true]
  rw [ctN]
  by_cases q : b = true
  · rw [if_pos (by rw [e]; exact q), q]; exact nI_1 _
  · have q0 : b = false := by cases b with
      | false => rfl
      | true => exact absurd rfl q
    rw [if_neg (by rw [e]; exact q), q0]; show nI _ + 0 = _; exact Int32.add_zero _
theorem law_nle (a : Nat) (h : a < 2 ^ 31) : ¬ nI a ≤ -1 := by
  rw [Int32.le_iff_toInt_le, nI_toInt h]
  have : ((-1 : Int32)).toInt = -1 := by decide +kernel
  omega
theorem law_nm1 (a : Nat) (h : a < 2 ^ 31) : ¬ nI a = -1 := fun e => law_nle a h (by rw [e]; exact Int32.le_refl _)
theorem alk_no {a b n n2 t : Nat} {f f2 : Nat → Int32} (h : a + t ≤ n → eqR f a f2 b t = false) : bI (decide (a + t ≤ n) && decide (b + t ≤ n2) && eqR f a f2 b t) = bI false := by
  by_cases q : a + t ≤ n
  · rw [h q, Bool.and_false]
  · rw [decide_eq_false q]; rfl
theorem alk_yes {a b n n2 t : Nat} {f f2 : Nat → Int32} (h1 : a + t ≤ n) (h2 : b + t ≤ n2) (h : eqR f a f2 b t = true) : bI (decide (a + t ≤ n) && decide (b + t ≤ n2) && eqR f a f2 b t) = bI true := by
  rw [decide_eq_true h1, decide_eq_true h2, h]; rfl
theorem mxn {a b : Nat} (ha : a < 2 ^ 31) (hb : b < 2 ^ 31) : (if nI a < nI b then nI b else nI a) = nI (max a b) := by
  by_cases h : a < b
  · rw [if_pos (nI_lt h hb), Nat.max_eq_right (by omega)]
  · rw [if_neg (fun q => h ((nI_ltI ha hb).mp q)), Nat.max_eq_left (by omega)]
theorem Iv.sealJ {LL : Nat → ltT} {EE : Nat → evT} {LN : Nat → Nat} {TT : Nat → (Nat → Int32) × Nat} {lc ec q : Nat} (I : Iv LL EE LN TT lc ec) (hq : q < ec) : slJ (lsD EE q) (EE q).2.1 = (EE q).2.2.2.2.2.2.1 := by
  obtain ⟨u, hu, e⟩ := I.sl q (by omega)
  obtain ⟨-, ⟨b1, -, -, b4⟩, c⟩ := I.2.2.2.2.2 q hq
  obtain ⟨d, hd, e2⟩ := dg_ok c
  rw [b4, e, b1, e2, slJ_ok hu hd, sl_ok hu hd]
theorem Iv.seN {LL : Nat → ltT} {EE : Nat → evT} {LN : Nat → Nat} {TT : Nat → (Nat → Int32) × Nat} {lc ec q : Nat} (I : Iv LL EE LN TT lc ec) (hq : q < ec) : ∃ u, u < 65521 ∧ (EE q).2.2.2.2.2.2.1 = nI u := by
  obtain ⟨u, hu, e⟩ := I.sl (q + 1) (by omega)
  refine ⟨u, hu, ?_⟩
  rw [← e]
  unfold lsD
  rw [if_neg (by omega), Nat.add_sub_cancel]
theorem ls_next {EE : Nat → evT} {q : Nat} : (EE q).2.2.2.2.2.2.1 = lsD EE (q + 1) := by
  unfold lsD
  rw [if_neg (by omega), Nat.add_sub_cancel]
theorem ch_whole {LL : Nat → ltT} {EE : Nat → evT} {LN : Nat → Nat} {q : Nat} (h : ftD LL EE LN q = true) : chD LL EE LN q = -1 := chC_a (Or.inl h)
theorem lg_self (x : Int64) : lg_cmp x x = 0 := by simp [lg_cmp]

set_option maxHeartbeats 4000000 in
set_option maxRecDepth 100000 in
/-- a letter: its signs are counted -/
theorem law_101 {p : Program} {e : Env} {s : State} {m : MethodId} {below : List Frame} {meth : Method} {c : Code} {Q : State → Prop} (l : Launch) (hlt : l.stackTraces = false) (g : gT) {b L : Nat} {xs : Nat → Int32} {B so : Nat} {AD : Nat → Nat} (hx : p.tables.exec = Jvm.exec) (hb : c.code = cL_law) (hml : c.maxLocals = 18) (hts : ∀ w ∈ wsL_law, w.before #[Value.ref b] s = true) (hown : s.vm.findClass RL = some m.cls) (hK : KK g s) (hZ0 : ZB s.heap.size s s.heap) (hX0 : va_X b L xs s s.heap) (hL : L < 1000) (hJD : JD s.heap.size B AD)
    {LL : Nat → ltT} {EE : Nat → evT} {LN : Nat → Nat} {TT : Nat → (Nat → Int32) × Nat} {lc ec la ea : Nat} {ra xa ta : Nat → Nat} {H : Heap} {locs : List Loc} {C Z : Nat} (hC : C ≤ 100000) (hZ : Z ≤ 1000000) (hI : Iv LL EE LN TT lc ec) (hDk : va_P (gD g) vwCl (wsD g AD LL EE lc ec) H) (hW : SW g B so la ea ra xa ta LL EE TT lc ec H) (hS : va_S (bA s.heap.size) s.heap H locs)
    {t : Nat} {x : Int32} {D0 : Int64} {k : Nat} (hk : k < lc)
    (kx : ∀ (ls : Array Slot), lv_has ls 18 [(11, .int (nI (cnN (LL k).1 30 (LL k).2.2))), (10, .int (nI (cnN (LL k).1 27 (LL k).2.2))), (9, .int (nI ((LL k).2.2))), (8, .int (nI (k))), (7, .int (nI (lc))), (5, .long (D0)), (4, .int (x)), (3, .int (nI (t))), (2, .ref (so)), (1, .ref (AD 0)), (0, .ref (b))] → W p l e room_1 s m #[Value.ref b] below meth c H locs C Z Q (F0 m 189 ls [])) (ls : Array Slot) (hl : lv_has ls 18 [(8, .int (nI (k))), (7, .int (nI (lc))), (5, .long (D0)), (4, .int (x)), (3, .int (nI (t))), (2, .ref (so)), (1, .ref (AD 0)), (0, .ref (b))]) : W p l e room_1 s m #[Value.ref b] below meth c H locs C Z Q (F0 m 101 ls []) := by
  have S : CallFix p m c cL_law 18 s #[Value.ref b] wsL_law RL := ⟨hx, hb, hml, hown, hts⟩
  have rC : 200000 ≤ room_1.cells := Nat.le_of_ble_eq_true rfl
  have rS : 2000000 ≤ room_1.slots := Nat.le_of_ble_eq_true rfl
  have hlc12 := hI.1
  have hec24 := hI.2.1
  have hBso : B ≤ so := hW.2.1.1
  have hB0B : s.heap.size ≤ B := hJD.2.2
  have hle := hI.le hk
  refine lv_aload_n hx hb dL_law_101 rfl (lv_at hl 6 rfl) ?_
  refine lv_iload hx hb dL_law_102 (lv_at hl 0 rfl) ?_
  refine p_V (As := [.int (nI (k))]) (rest := []) S (c_X2_signsOf l g AD LL EE LN lc ec hI.1 hI.2.1 hI.hLL hI.hEE k hk) (cwV 1 hts gL_law_X2_signsOf rfl rfl rfl (by decide +kernel) ⟨Nat.le_of_ble_eq_true rfl, Nat.le_of_ble_eq_true rfl⟩) hK (va_recv hK.1 hDk (ci := 2) (q0 := 0) rfl dk_me) hDk rfl hl.1 rfl (Nat.le_of_ble_eq_true rfl) dL_law_104 ⟨by show _ ≤ room_1.cells; omega, by show _ ≤ room_1.slots; omega⟩ ?_
  refine lv_istore (lv' := [(9, .int (nI ((LL k).2.2))), (8, .int (nI (k))), (7, .int (nI (lc))), (5, .long (D0)), (4, .int (x)), (3, .int (nI (t))), (2, .ref (so)), (1, .ref (AD 0)), (0, .ref (b))]) hx hb dL_law_107 hl (by decide) rfl (fun ls hl => ?_)
  refine lv_iconst (v := nI (0)) hx hb dL_law_109 (by decide +kernel) ?_
  refine lv_toI (z := nI (cnN (LL k).1 27 0)) (rfl) ?_
  refine lv_istore (lv' := [(10, .int (nI (cnN (LL k).1 27 0))), (9, .int (nI ((LL k).2.2))), (8, .int (nI (k))), (7, .int (nI (lc))), (5, .long (D0)), (4, .int (x)), (3, .int (nI (t))), (2, .ref (so)), (1, .ref (AD 0)), (0, .ref (b))]) hx hb dL_law_110 hl (by decide) rfl (fun ls hl => ?_)
  refine lv_iconst (v := nI (0)) hx hb dL_law_112 (by decide +kernel) ?_
  refine lv_toI (z := nI (cnN (LL k).1 30 0)) (rfl) ?_
  refine lv_istore (lv' := [(11, .int (nI (cnN (LL k).1 30 0))), (10, .int (nI (cnN (LL k).1 27 0))), (9, .int (nI ((LL k).2.2))), (8, .int (nI (k))), (7, .int (nI (lc))), (5, .long (D0)), (4, .int (x)), (3, .int (nI (t))), (2, .ref (so)), (1, .ref (AD 0)), (0, .ref (b))]) hx hb dL_law_113 hl (by decide) rfl (fun ls hl => ?_)
  refine lv_iconst (v := nI (0)) hx hb dL_law_115 (by decide +kernel) ?_
  refine lv_istore (lv' := [(12, .int (nI (0))), (11, .int (nI (cnN (LL k).1 30 0))), (10, .int (nI (cnN (LL k).1 27 0))), (9, .int (nI ((LL k).2.2))), (8, .int (nI (k))), (7, .int (nI (lc))), (5, .long (D0)), (4, .int (x)), (3, .int (nI (t))), (2, .ref (so)), (1, .ref (AD 0)), (0, .ref (b))]) hx hb dL_law_116 hl (by decide) rfl (fun ls hl => ?_)
  have L118 : ∀ (k1 i : Nat) (ls : Array Slot), ((LL k).2.2) - i < k1 → i ≤ ((LL k).2.2) → lv_has ls 18 [(12, .int (nI i)), (11, .int (nI (cnN (LL k).1 30 i))), (10, .int (nI (cnN (LL k).1 27 i))), (9, .int (nI ((LL k).2.2))), (8, .int (nI (k))), (7, .int (nI (lc))), (5, .long (D0)), (4, .int (x)), (3, .int (nI (t))), (2, .ref (so)), (1, .ref (AD 0)), (0, .ref (b))] → W p l e room_1 s m #[Value.ref b] below meth c H locs C Z Q (F0 m 118 ls []) := by
    intro k1
    induction k1 with
    | zero => intro i ls hFu; exact absurd hFu (Nat.not_lt_zero _)
    | succ k1 ih1 =>
      intro i ls hFu hLe hl
      refine lv_iload hx hb dL_law_118 (lv_at hl 0 rfl) ?_
      refine lv_iload hx hb dL_law_120 (lv_at hl 3 rfl) ?_
      refine br_ge (a := i) (b := (LL k).2.2) (tgt := 189) hx hb (by omega) (by omega) dL_law_122 (by decide) (fun c122 => ?_) (fun c122 => ?_)
      · obtain rfl : ((LL k).2.2) = i := by omega
        exact kx ls (lv_sub hl [1, 2, 3, 4, 5, 6, 7, 8, 9, 10, 11] rfl)
      · refine lv_aload_n hx hb dL_law_125 rfl (lv_at hl 10 rfl) ?_
        refine lv_iload hx hb dL_law_126 (lv_at hl 4 rfl) ?_
        refine lv_iload hx hb dL_law_128 (lv_at hl 0 rfl) ?_
        refine p_V (As := [.int (nI (k)), .int (nI i)]) (rest := []) S (c_X2_signAt l g AD LL EE LN lc ec hI.1 hI.2.1 hI.hLL hI.hEE k hk i (by omega)) (cwV 2 hts gL_law_X2_signAt rfl rfl rfl (by decide +kernel) ⟨Nat.le_of_ble_eq_true rfl, Nat.le_of_ble_eq_true rfl⟩) hK (va_recv hK.1 hDk (ci := 2) (q0 := 0) rfl dk_me) hDk rfl hl.1 rfl (Nat.le_of_ble_eq_true rfl) dL_law_130 ⟨by show _ ≤ room_1.cells; omega, by show _ ≤ room_1.slots; omega⟩ ?_
        refine lv_istore (lv' := [(13, .int (((LL k).1) (i))), (12, .int (nI i)), (11, .int (nI (cnN (LL k).1 30 i))), (10, .int (nI (cnN (LL k).1 27 i))), (9, .int (nI ((LL k).2.2))), (8, .int (nI (k))), (7, .int (nI (lc))), (5, .long (D0)), (4, .int (x)), (3, .int (nI (t))), (2, .ref (so)), (1, .ref (AD 0)), (0, .ref (b))]) hx hb dL_law_133 hl (by decide) rfl (fun ls hl => ?_)
        obtain ⟨u, hu, eu⟩ := hI.sg hk i (by omega)
        refine lv_iload hx hb dL_law_135 (lv_at hl 3 rfl) ?_
        refine lv_iload hx hb dL_law_137 (lv_at hl 0 rfl) ?_
        refine lv_bipush (v := 27) hx hb dL_law_139 (by decide +kernel) ?_
        refine lv_icmp_ne (tgt := 148) hx hb dL_law_141 (by decide) (fun c141 => ?_) (fun c141 => ?_)
        · refine lv_iconst (v := bI false) hx hb dL_law_148 (by decide +kernel) ?_
          refine lv_iadd hx hb dL_law_149 ?_
          refine lv_toI (z := nI (cnN (LL k).1 27 (i + 1))) (cn_go _ (by first | (rw [decide_eq_true c141]) | (rw [decide_eq_false c141]))) ?_
          refine lv_istore (lv' := [(10, .int (nI (cnN (LL k).1 27 (i + 1)))), (13, .int (((LL k).1) (i))), (12, .int (nI i)), (11, .int (nI (cnN (LL k).1 30 i))), (9, .int (nI ((LL k).2.2))), (8, .int (nI (k))), (7, .int (nI (lc))), (5, .long (D0)), (4, .int (x)), (3, .int (nI (t))), (2, .ref (so)), (1, .ref (AD 0)), (0, .ref (b))]) hx hb dL_law_150 hl (by decide) rfl (fun ls hl => ?_)
          refine lv_iload hx hb dL_law_152 (lv_at hl 3 rfl) ?_
          refine lv_iload hx hb dL_law_154 (lv_at hl 1 rfl) ?_
          refine lv_bipush (v := 30) hx hb dL_law_156 (by decide +kernel) ?_
          refine lv_icmp_ne (tgt := 165) hx hb dL_law_158 (by decide) (fun c158 => ?_) (fun c158 => ?_)
          · refine lv_iconst (v := bI false) hx hb dL_law_165 (by decide +kernel) ?_
            refine lv_iadd hx hb dL_law_166 ?_
            refine lv_toI (z := nI (cnN (LL k).1 30 (i + 1))) (cn_go _ (by first | (rw [decide_eq_true c158]) | (rw [decide_eq_false c158]))) ?_
            refine lv_istore (lv' := [(11, .int (nI (cnN (LL k).1 30 (i + 1)))), (10, .int (nI (cnN (LL k).1 27 (i + 1)))), (13, .int (((LL k).1) (i))), (12, .int (nI i)), (9, .int (nI ((LL k).2.2))), (8, .int (nI (k))), (7, .int (nI (lc))), (5, .long (D0)), (4, .int (x)), (3, .int (nI (t))), (2, .ref (so)), (1, .ref (AD 0)), (0, .ref (b))]) hx hb dL_law_167 hl (by decide) rfl (fun ls hl => ?_)
            refine lv_iload hx hb dL_law_169 (lv_at hl 2 rfl) ?_
            refine lv_toI (z := nI (u)) (eu) ?_
            refine br_lt0 (a := u) (tgt := 181) hx hb (by omega) dL_law_171 (by decide) (fun c171 => ?_) (fun c171 => ?_)
            · exact c171.elim
            · refine lv_iload hx hb dL_law_174 (lv_at hl 2 rfl) ?_
              refine lv_toI (z := nI (u)) (eu) ?_
              refine lv_bipush (v := nI (30)) hx hb dL_law_176 (by decide +kernel) ?_
              refine br_le (a := u) (b := 30) (tgt := 183) hx hb (by omega) (by omega) dL_law_178 (by decide) (fun c178 => ?_) (fun c178 => ?_)
              · refine lv_iinc (v := nI (i + 1)) (lv' := [(12, .int (nI (i + 1))), (11, .int (nI (cnN (LL k).1 30 (i + 1)))), (10, .int (nI (cnN (LL k).1 27 (i + 1)))), (13, .int (((LL k).1) (i))), (9, .int (nI ((LL k).2.2))), (8, .int (nI (k))), (7, .int (nI (lc))), (5, .long (D0)), (4, .int (x)), (3, .int (nI (t))), (2, .ref (so)), (1, .ref (AD 0)), (0, .ref (b))]) hx hb dL_law_183 hl (k := 3) rfl (nI_1 _) (by decide) rfl (fun ls hl => ?_)
                refine lv_goto (tgt := 118) hx hb dL_law_186 (by decide) ?_
                exact ih1 (i + 1) _ (by omega) (by omega) (lv_sub hl [0, 1, 2, 4, 5, 6, 7, 8, 9, 10, 11, 12] rfl)
              · exact (by omega : False).elim
          · refine lv_iconst (v := bI true) hx hb dL_law_161 (by decide +kernel) ?_
            refine lv_goto (tgt := 166) hx hb dL_law_162 (by decide) ?_
            refine lv_iadd hx hb dL_law_166 ?_
            refine lv_toI (z := nI (cnN (LL k).1 30 (i + 1))) (cn_go _ (by first | (rw [decide_eq_true c158]) | (rw [decide_eq_false c158]))) ?_
            refine lv_istore (lv' := [(11, .int (nI (cnN (LL k).1 30 (i + 1)))), (10, .int (nI (cnN (LL k).1 27 (i + 1)))), (13, .int (((LL k).1) (i))), (12, .int (nI i)), (9, .int (nI ((LL k).2.2))), (8, .int (nI (k))), (7, .int (nI (lc))), (5, .long (D0)), (4, .int (x)), (3, .int (nI (t))), (2, .ref (so)), (1, .ref (AD 0)), (0, .ref (b))]) hx hb dL_law_167 hl (by decide) rfl (fun ls hl => ?_)
            refine lv_iload hx hb dL_law_169 (lv_at hl 2 rfl) ?_
            refine lv_toI (z := nI (u)) (eu) ?_
            refine br_lt0 (a := u) (tgt := 181) hx hb (by omega) dL_law_171 (by decide) (fun c171 => ?_) (fun c171 => ?_)
            · exact c171.elim
            · refine lv_iload hx hb dL_law_174 (lv_at hl 2 rfl) ?_
              refine lv_toI (z := nI (u)) (eu) ?_
              refine lv_bipush (v := nI (30)) hx hb dL_law_176 (by decide +kernel) ?_
              refine br_le (a := u) (b := 30) (tgt := 183) hx hb (by omega) (by omega) dL_law_178 (by decide) (fun c178 => ?_) (fun c178 => ?_)
              · refine lv_iinc (v := nI (i + 1)) (lv' := [(12, .int (nI (i + 1))), (11, .int (nI (cnN (LL k).1 30 (i + 1)))), (10, .int (nI (cnN (LL k).1 27 (i + 1)))), (13, .int (((LL k).1) (i))), (9, .int (nI ((LL k).2.2))), (8, .int (nI (k))), (7, .int (nI (lc))), (5, .long (D0)), (4, .int (x)), (3, .int (nI (t))), (2, .ref (so)), (1, .ref (AD 0)), (0, .ref (b))]) hx hb dL_law_183 hl (k := 3) rfl (nI_1 _) (by decide) rfl (fun ls hl => ?_)
                refine lv_goto (tgt := 118) hx hb dL_law_186 (by decide) ?_
                exact ih1 (i + 1) _ (by omega) (by omega) (lv_sub hl [0, 1, 2, 4, 5, 6, 7, 8, 9, 10, 11, 12] rfl)
              · exact (by omega : False).elim
        · refine lv_iconst (v := bI true) hx hb dL_law_144 (by decide +kernel) ?_
          refine lv_goto (tgt := 149) hx hb dL_law_145 (by decide) ?_
          refine lv_iadd hx hb dL_law_149 ?_
          refine lv_toI (z := nI (cnN (LL k).1 27 (i + 1))) (cn_go _ (by first | (rw [decide_eq_true c141]) | (rw [decide_eq_false c141]))) ?_
          refine lv_istore (lv' := [(10, .int (nI (cnN (LL k).1 27 (i + 1)))), (13, .int (((LL k).1) (i))), (12, .int (nI i)), (11, .int (nI (cnN (LL k).1 30 i))), (9, .int (nI ((LL k).2.2))), (8, .int (nI (k))), (7, .int (nI (lc))), (5, .long (D0)), (4, .int (x)), (3, .int (nI (t))), (2, .ref (so)), (1, .ref (AD 0)), (0, .ref (b))]) hx hb dL_law_150 hl (by decide) rfl (fun ls hl => ?_)
          refine lv_iload hx hb dL_law_152 (lv_at hl 3 rfl) ?_
          refine lv_iload hx hb dL_law_154 (lv_at hl 1 rfl) ?_
          refine lv_bipush (v := 30) hx hb dL_law_156 (by decide +kernel) ?_
          refine lv_icmp_ne (tgt := 165) hx hb dL_law_158 (by decide) (fun c158 => ?_) (fun c158 => ?_)
          · refine lv_iconst (v := bI false) hx hb dL_law_165 (by decide +kernel) ?_
            refine lv_iadd hx hb dL_law_166 ?_
            refine lv_toI (z := nI (cnN (LL k).1 30 (i + 1))) (cn_go _ (by first | (rw [decide_eq_true c158]) | (rw [decide_eq_false c158]))) ?_
            refine lv_istore (lv' := [(11, .int (nI (cnN (LL k).1 30 (i + 1)))), (10, .int (nI (cnN (LL k).1 27 (i + 1)))), (13, .int (((LL k).1) (i))), (12, .int (nI i)), (9, .int (nI ((LL k).2.2))), (8, .int (nI (k))), (7, .int (nI (lc))), (5, .long (D0)), (4, .int (x)), (3, .int (nI (t))), (2, .ref (so)), (1, .ref (AD 0)), (0, .ref (b))]) hx hb dL_law_167 hl (by decide) rfl (fun ls hl => ?_)
            refine lv_iload hx hb dL_law_169 (lv_at hl 2 rfl) ?_
            refine lv_toI (z := nI (u)) (eu) ?_
            refine br_lt0 (a := u) (tgt := 181) hx hb (by omega) dL_law_171 (by decide) (fun c171 => ?_) (fun c171 => ?_)
            · exact c171.elim
            · refine lv_iload hx hb dL_law_174 (lv_at hl 2 rfl) ?_
              refine lv_toI (z := nI (u)) (eu) ?_
              refine lv_bipush (v := nI (30)) hx hb dL_law_176 (by decide +kernel) ?_
              refine br_le (a := u) (b := 30) (tgt := 183) hx hb (by omega) (by omega) dL_law_178 (by decide) (fun c178 => ?_) (fun c178 => ?_)
              · refine lv_iinc (v := nI (i + 1)) (lv' := [(12, .int (nI (i + 1))), (11, .int (nI (cnN (LL k).1 30 (i + 1)))), (10, .int (nI (cnN (LL k).1 27 (i + 1)))), (13, .int (((LL k).1) (i))), (9, .int (nI ((LL k).2.2))), (8, .int (nI (k))), (7, .int (nI (lc))), (5, .long (D0)), (4, .int (x)), (3, .int (nI (t))), (2, .ref (so)), (1, .ref (AD 0)), (0, .ref (b))]) hx hb dL_law_183 hl (k := 3) rfl (nI_1 _) (by decide) rfl (fun ls hl => ?_)
                refine lv_goto (tgt := 118) hx hb dL_law_186 (by decide) ?_
                exact ih1 (i + 1) _ (by omega) (by omega) (lv_sub hl [0, 1, 2, 4, 5, 6, 7, 8, 9, 10, 11, 12] rfl)
              · exact (by omega : False).elim
          · refine lv_iconst (v := bI true) hx hb dL_law_161 (by decide +kernel) ?_
            refine lv_goto (tgt := 166) hx hb dL_law_162 (by decide) ?_
            refine lv_iadd hx hb dL_law_166 ?_
            refine lv_toI (z := nI (cnN (LL k).1 30 (i + 1))) (cn_go _ (by first | (rw [decide_eq_true c158]) | (rw [decide_eq_false c158]))) ?_
            refine lv_istore (lv' := [(11, .int (nI (cnN (LL k).1 30 (i + 1)))), (10, .int (nI (cnN (LL k).1 27 (i + 1)))), (13, .int (((LL k).1) (i))), (12, .int (nI i)), (9, .int (nI ((LL k).2.2))), (8, .int (nI (k))), (7, .int (nI (lc))), (5, .long (D0)), (4, .int (x)), (3, .int (nI (t))), (2, .ref (so)), (1, .ref (AD 0)), (0, .ref (b))]) hx hb dL_law_167 hl (by decide) rfl (fun ls hl => ?_)
            refine lv_iload hx hb dL_law_169 (lv_at hl 2 rfl) ?_
            refine lv_toI (z := nI (u)) (eu) ?_
            refine br_lt0 (a := u) (tgt := 181) hx hb (by omega) dL_law_171 (by decide) (fun c171 => ?_) (fun c171 => ?_)
            · exact c171.elim
            · refine lv_iload hx hb dL_law_174 (lv_at hl 2 rfl) ?_
              refine lv_toI (z := nI (u)) (eu) ?_
              refine lv_bipush (v := nI (30)) hx hb dL_law_176 (by decide +kernel) ?_
              refine br_le (a := u) (b := 30) (tgt := 183) hx hb (by omega) (by omega) dL_law_178 (by decide) (fun c178 => ?_) (fun c178 => ?_)
              · refine lv_iinc (v := nI (i + 1)) (lv' := [(12, .int (nI (i + 1))), (11, .int (nI (cnN (LL k).1 30 (i + 1)))), (10, .int (nI (cnN (LL k).1 27 (i + 1)))), (13, .int (((LL k).1) (i))), (9, .int (nI ((LL k).2.2))), (8, .int (nI (k))), (7, .int (nI (lc))), (5, .long (D0)), (4, .int (x)), (3, .int (nI (t))), (2, .ref (so)), (1, .ref (AD 0)), (0, .ref (b))]) hx hb dL_law_183 hl (k := 3) rfl (nI_1 _) (by decide) rfl (fun ls hl => ?_)
                refine lv_goto (tgt := 118) hx hb dL_law_186 (by decide) ?_
                exact ih1 (i + 1) _ (by omega) (by omega) (lv_sub hl [0, 1, 2, 4, 5, 6, 7, 8, 9, 10, 11, 12] rfl)
              · exact (by omega : False).elim
  exact L118 (((LL k).2.2) + 1) (0) _ (by omega) (by omega) (lv_sub hl [0, 1, 2, 3, 4, 5, 6, 7, 8, 9, 10, 11] rfl)

set_option maxHeartbeats 4000000 in
set_option maxRecDepth 100000 in
/-- a letter: what is counted is as told -/
theorem law_189 {p : Program} {e : Env} {s : State} {m : MethodId} {below : List Frame} {meth : Method} {c : Code} {Q : State → Prop} (l : Launch) (hlt : l.stackTraces = false) (g : gT) {b L : Nat} {xs : Nat → Int32} {B so : Nat} {AD : Nat → Nat} (hx : p.tables.exec = Jvm.exec) (hb : c.code = cL_law) (hml : c.maxLocals = 18) (hts : ∀ w ∈ wsL_law, w.before #[Value.ref b] s = true) (hown : s.vm.findClass RL = some m.cls) (hK : KK g s) (hZ0 : ZB s.heap.size s s.heap) (hX0 : va_X b L xs s s.heap) (hL : L < 1000) (hJD : JD s.heap.size B AD)
    {LL : Nat → ltT} {EE : Nat → evT} {LN : Nat → Nat} {TT : Nat → (Nat → Int32) × Nat} {lc ec la ea : Nat} {ra xa ta : Nat → Nat} {H : Heap} {locs : List Loc} {C Z : Nat} (hC : C ≤ 100000) (hZ : Z ≤ 1000000) (hI : Iv LL EE LN TT lc ec) (hDk : va_P (gD g) vwCl (wsD g AD LL EE lc ec) H) (hW : SW g B so la ea ra xa ta LL EE TT lc ec H) (hS : va_S (bA s.heap.size) s.heap H locs)
    {t : Nat} {x : Int32} {D0 : Int64} {k : Nat} (hk : k < lc)
    (kx : ∀ {t6 : Nat}, 1 ≤ t6 → t6 ≤ 6 → ∀ (ls : Array Slot), lv_has ls 18 [(12, .int (nI (t6))), (11, .int (nI (cnN (LL k).1 30 (LL k).2.2))), (10, .int (nI (cnN (LL k).1 27 (LL k).2.2))), (9, .int (nI ((LL k).2.2))), (8, .int (nI (k))), (7, .int (nI (lc))), (5, .long (D0)), (4, .int (x)), (3, .int (nI (t))), (2, .ref (so)), (1, .ref (AD 0)), (0, .ref (b))] → W p l e room_1 s m #[Value.ref b] below meth c H locs C Z Q (F0 m 283 ls [])) (ls : Array Slot) (hl : lv_has ls 18 [(11, .int (nI (cnN (LL k).1 30 (LL k).2.2))), (10, .int (nI (cnN (LL k).1 27 (LL k).2.2))), (9, .int (nI ((LL k).2.2))), (8, .int (nI (k))), (7, .int (nI (lc))), (5, .long (D0)), (4, .int (x)), (3, .int (nI (t))), (2, .ref (so)), (1, .ref (AD 0)), (0, .ref (b))]) : W p l e room_1 s m #[Value.ref b] below meth c H locs C Z Q (F0 m 189 ls []) := by
  have S : CallFix p m c cL_law 18 s #[Value.ref b] wsL_law RL := ⟨hx, hb, hml, hown, hts⟩
  have rC : 200000 ≤ room_1.cells := Nat.le_of_ble_eq_true rfl
  have rS : 2000000 ≤ room_1.slots := Nat.le_of_ble_eq_true rfl
  have hlc12 := hI.1
  have hec24 := hI.2.1
  have hBso : B ≤ so := hW.2.1.1
  have hB0B : s.heap.size ≤ B := hJD.2.2
  have hle := hI.le hk
  have h27 := cn_le (LL k).1 27 (LL k).2.2
  have h30 := cn_le (LL k).1 30 (LL k).2.2
  have hun := un_le (LL k).1 (LL k).2.2
  obtain ⟨d, hd, ed⟩ := dg_ok (hI.sg hk)
  refine lv_iload hx hb dL_law_189 (lv_at hl 2 rfl) ?_
  refine br_lt0 (a := (LL k).2.2) (tgt := 267) hx hb (by omega) dL_law_191 (by decide) (fun c191 => ?_) (fun c191 => ?_)
  · exact c191.elim
  · refine lv_iload hx hb dL_law_194 (lv_at hl 2 rfl) ?_
    refine lv_bipush (v := nI (40)) hx hb dL_law_196 (by decide +kernel) ?_
    refine br_gt (a := (LL k).2.2) (b := 40) (tgt := 267) hx hb (by omega) (by omega) dL_law_198 (by decide) (fun c198 => ?_) (fun c198 => ?_)
    · exact (by omega : False).elim
    · refine lv_iload hx hb dL_law_201 (lv_at hl 1 rfl) ?_
      refine lv_aload_n hx hb dL_law_203 rfl (lv_at hl 9 rfl) ?_
      refine lv_iload hx hb dL_law_204 (lv_at hl 3 rfl) ?_
      refine p_V (As := [.int (nI (k))]) (rest := [.int (nI (cnN (LL k).1 27 (LL k).2.2))]) S (c_X2_commasOf l g AD LL EE LN lc ec hI.1 hI.2.1 hI.hLL hI.hEE k hk) (cwV 1 hts gL_law_X2_commasOf rfl rfl rfl (by decide +kernel) ⟨Nat.le_of_ble_eq_true rfl, Nat.le_of_ble_eq_true rfl⟩) hK (va_recv hK.1 hDk (ci := 2) (q0 := 0) rfl dk_me) hDk rfl hl.1 rfl (Nat.le_of_ble_eq_true rfl) dL_law_206 ⟨by show _ ≤ room_1.cells; omega, by show _ ≤ room_1.slots; omega⟩ ?_
      refine lv_toI (z := nI (cnN (LL k).1 27 (LL k).2.2)) (cn_nat _ _ _) ?_
      refine br_ne (a := cnN (LL k).1 27 (LL k).2.2) (b := cnN (LL k).1 27 (LL k).2.2) (tgt := 267) hx hb (by omega) (by omega) dL_law_209 (by decide) (fun c209 => ?_) (fun c209 => ?_)
      · exact absurd rfl c209
      · refine lv_iload hx hb dL_law_212 (lv_at hl 0 rfl) ?_
        refine lv_aload_n hx hb dL_law_214 rfl (lv_at hl 9 rfl) ?_
        refine lv_iload hx hb dL_law_215 (lv_at hl 3 rfl) ?_
        refine p_V (As := [.int (nI (k))]) (rest := [.int (nI (cnN (LL k).1 30 (LL k).2.2))]) S (c_X2_tearsOf l g AD LL EE LN lc ec hI.1 hI.2.1 hI.hLL hI.hEE k hk) (cwV 1 hts gL_law_X2_tearsOf rfl rfl rfl (by decide +kernel) ⟨Nat.le_of_ble_eq_true rfl, Nat.le_of_ble_eq_true rfl⟩) hK (va_recv hK.1 hDk (ci := 2) (q0 := 0) rfl dk_me) hDk rfl hl.1 rfl (Nat.le_of_ble_eq_true rfl) dL_law_217 ⟨by show _ ≤ room_1.cells; omega, by show _ ≤ room_1.slots; omega⟩ ?_
        refine lv_toI (z := nI (cnN (LL k).1 30 (LL k).2.2)) (cn_nat _ _ _) ?_
        refine br_ne (a := cnN (LL k).1 30 (LL k).2.2) (b := cnN (LL k).1 30 (LL k).2.2) (tgt := 267) hx hb (by omega) (by omega) dL_law_220 (by decide) (fun c220 => ?_) (fun c220 => ?_)
        · exact absurd rfl c220
        · refine lv_aload_n hx hb dL_law_223 rfl (lv_at hl 9 rfl) ?_
          refine lv_iload hx hb dL_law_224 (lv_at hl 3 rfl) ?_
          refine p_V (As := [.int (nI (k))]) (rest := []) S (c_X2_digestOf l g AD LL EE LN lc ec hI.1 hI.2.1 hI.hLL hI.hEE k hk) (cwV 1 hts gL_law_X2_digestOf rfl rfl rfl (by decide +kernel) ⟨Nat.le_of_ble_eq_true rfl, Nat.le_of_ble_eq_true rfl⟩) hK (va_recv hK.1 hDk (ci := 2) (q0 := 0) rfl dk_me) hDk rfl hl.1 rfl (Nat.le_of_ble_eq_true rfl) dL_law_226 ⟨by show _ ≤ room_1.cells; omega, by show _ ≤ room_1.slots; omega⟩ ?_
          refine lv_toI (z := nI (d)) (ed) ?_
          refine br_lt0 (a := d) (tgt := 267) hx hb (by omega) dL_law_229 (by decide) (fun c229 => ?_) (fun c229 => ?_)
          · exact c229.elim
          · refine lv_aload_n hx hb dL_law_232 rfl (lv_at hl 9 rfl) ?_
            refine lv_iload hx hb dL_law_233 (lv_at hl 3 rfl) ?_
            refine p_V (As := [.int (nI (k))]) (rest := []) S (c_X2_digestOf l g AD LL EE LN lc ec hI.1 hI.2.1 hI.hLL hI.hEE k hk) (cwV 1 hts gL_law_X2_digestOf rfl rfl rfl (by decide +kernel) ⟨Nat.le_of_ble_eq_true rfl, Nat.le_of_ble_eq_true rfl⟩) hK (va_recv hK.1 hDk (ci := 2) (q0 := 0) rfl dk_me) hDk rfl hl.1 rfl (Nat.le_of_ble_eq_true rfl) dL_law_235 ⟨by show _ ≤ room_1.cells; omega, by show _ ≤ room_1.slots; omega⟩ ?_
            refine lv_toI (z := nI (d)) (ed) ?_
            refine lv_sipush (v := nI (8190)) hx hb dL_law_238 (by decide +kernel) ?_
            refine br_gt (a := d) (b := 8190) (tgt := 267) hx hb (by omega) (by omega) dL_law_241 (by decide) (fun c241 => ?_) (fun c241 => ?_)
            · exact (by omega : False).elim
            · refine lv_aload_n hx hb dL_law_244 rfl (lv_at hl 9 rfl) ?_
              refine lv_iload hx hb dL_law_245 (lv_at hl 3 rfl) ?_
              refine p_V (As := [.int (nI (k))]) (rest := []) S (c_X2_unnoticed l g AD LL EE LN lc ec hI.1 hI.2.1 hI.hLL hI.hEE k hk) (cwV 1 hts gL_law_X2_unnoticed rfl rfl rfl (by decide +kernel) ⟨Nat.le_of_ble_eq_true rfl, Nat.le_of_ble_eq_true rfl⟩) hK (va_recv hK.1 hDk (ci := 2) (q0 := 0) rfl dk_me) hDk rfl hl.1 rfl (Nat.le_of_ble_eq_true rfl) dL_law_247 ⟨by show _ ≤ room_1.cells; omega, by show _ ≤ room_1.slots; omega⟩ ?_
              refine lv_toI (z := nI (unN (LL k).1 (LL k).2.2)) (un_nat _ _) ?_
              refine br_lt0 (a := unN (LL k).1 (LL k).2.2) (tgt := 267) hx hb (by omega) dL_law_250 (by decide) (fun c250 => ?_) (fun c250 => ?_)
              · exact c250.elim
              · refine lv_aload_n hx hb dL_law_253 rfl (lv_at hl 9 rfl) ?_
                refine lv_iload hx hb dL_law_254 (lv_at hl 3 rfl) ?_
                refine p_V (As := [.int (nI (k))]) (rest := []) S (c_X2_unnoticed l g AD LL EE LN lc ec hI.1 hI.2.1 hI.hLL hI.hEE k hk) (cwV 1 hts gL_law_X2_unnoticed rfl rfl rfl (by decide +kernel) ⟨Nat.le_of_ble_eq_true rfl, Nat.le_of_ble_eq_true rfl⟩) hK (va_recv hK.1 hDk (ci := 2) (q0 := 0) rfl dk_me) hDk rfl hl.1 rfl (Nat.le_of_ble_eq_true rfl) dL_law_256 ⟨by show _ ≤ room_1.cells; omega, by show _ ≤ room_1.slots; omega⟩ ?_
                refine lv_toI (z := nI (unN (LL k).1 (LL k).2.2)) (un_nat _ _) ?_
                refine lv_iload hx hb dL_law_259 (lv_at hl 2 rfl) ?_
                refine lv_iload hx hb dL_law_261 (lv_at hl 1 rfl) ?_
                refine lv_isub hx hb dL_law_263 ?_
                refine lv_toI (z := nI ((LL k).2.2 - (cnN (LL k).1 27 (LL k).2.2))) (pk_sub (by omega)) ?_
                refine br_le (a := unN (LL k).1 (LL k).2.2) (b := (LL k).2.2 - (cnN (LL k).1 27 (LL k).2.2)) (tgt := 269) hx hb (by omega) (by omega) dL_law_264 (by decide) (fun c264 => ?_) (fun c264 => ?_)
                · refine lv_iconst (v := nI (1)) hx hb dL_law_269 (by decide +kernel) ?_
                  refine lv_iload hx hb dL_law_270 (lv_at hl 6 rfl) ?_
                  refine lv_iload hx hb dL_law_272 (lv_at hl 3 rfl) ?_
                  refine lv_ishr hx hb dL_law_274 ?_
                  refine lv_bipush (v := nI (6)) hx hb dL_law_275 (by decide +kernel) ?_
                  refine p_S (As := [.int ((x) >>> ((nI (k)) &&& 31)), .int (nI (6))]) (rest := [.int (nI (1))]) S (c_L_below l g ((x) >>> ((nI (k)) &&& 31)) 6 (by omega) (by omega)) (va_cwS 2 hts gL_law_L_below rfl rfl rfl (by decide +kernel) ⟨Nat.le_of_ble_eq_true rfl, Nat.le_of_ble_eq_true rfl⟩) hK (trivial) rfl hl.1 rfl (Nat.le_of_ble_eq_true rfl) dL_law_277 ⟨by show _ ≤ room_1.cells; omega, by show _ ≤ room_1.slots; omega⟩ ?_
                  obtain ⟨r6, hr6, er6⟩ := blw_lt ((x) >>> ((nI (k)) &&& 31)) (k := 6) (by omega) (by omega)
                  refine lv_toI (z := nI (r6)) (er6) ?_
                  refine lv_iadd hx hb dL_law_280 ?_
                  refine lv_toI (z := nI (1 + r6)) (nI_add _ _) ?_
                  refine lv_istore (lv' := [(12, .int (nI (1 + r6))), (11, .int (nI (cnN (LL k).1 30 (LL k).2.2))), (10, .int (nI (cnN (LL k).1 27 (LL k).2.2))), (9, .int (nI ((LL k).2.2))), (8, .int (nI (k))), (7, .int (nI (lc))), (5, .long (D0)), (4, .int (x)), (3, .int (nI (t))), (2, .ref (so)), (1, .ref (AD 0)), (0, .ref (b))]) hx hb dL_law_281 hl (by decide) rfl (fun ls hl => ?_)
                  exact kx (t6 := 1 + r6) (by omega) (by omega) ls (lv_sub hl [0, 1, 2, 3, 4, 5, 6, 7, 8, 9, 10, 11] rfl)
                · exact (by omega : False).elim

set_option maxHeartbeats 4000000 in
set_option maxRecDepth 100000 in
/-- a letter: its pairs of windows -/
theorem law_283 {p : Program} {e : Env} {s : State} {m : MethodId} {below : List Frame} {meth : Method} {c : Code} {Q : State → Prop} (l : Launch) (hlt : l.stackTraces = false) (g : gT) {b L : Nat} {xs : Nat → Int32} {B so : Nat} {AD : Nat → Nat} (hx : p.tables.exec = Jvm.exec) (hb : c.code = cL_law) (hml : c.maxLocals = 18) (hts : ∀ w ∈ wsL_law, w.before #[Value.ref b] s = true) (hown : s.vm.findClass RL = some m.cls) (hK : KK g s) (hZ0 : ZB s.heap.size s s.heap) (hX0 : va_X b L xs s s.heap) (hL : L < 1000) (hJD : JD s.heap.size B AD)
    {LL : Nat → ltT} {EE : Nat → evT} {LN : Nat → Nat} {TT : Nat → (Nat → Int32) × Nat} {lc ec la ea : Nat} {ra xa ta : Nat → Nat} {H : Heap} {locs : List Loc} {C Z : Nat} (hC : C ≤ 100000) (hZ : Z ≤ 1000000) (hI : Iv LL EE LN TT lc ec) (hDk : va_P (gD g) vwCl (wsD g AD LL EE lc ec) H) (hW : SW g B so la ea ra xa ta LL EE TT lc ec H) (hS : va_S (bA s.heap.size) s.heap H locs)
    {t : Nat} {x : Int32} {D0 : Int64} {k t6 : Nat} (hk : k < lc) (ht1 : 1 ≤ t6) (ht2 : t6 ≤ 6)
    (kx : ∀ (ls : Array Slot), lv_has ls 18 [(13, .int (nI (psM (paP (LL k).1 t6 false) ((LL k).2.2 + 1 - t6)))), (12, .int (nI (t6))), (11, .int (nI (cnN (LL k).1 30 (LL k).2.2))), (10, .int (nI (cnN (LL k).1 27 (LL k).2.2))), (9, .int (nI ((LL k).2.2))), (8, .int (nI (k))), (7, .int (nI (lc))), (5, .long (D0)), (4, .int (x)), (3, .int (nI (t))), (2, .ref (so)), (1, .ref (AD 0)), (0, .ref (b))] → W p l e room_1 s m #[Value.ref b] below meth c H locs C Z Q (F0 m 354 ls [])) (ls : Array Slot) (hl : lv_has ls 18 [(12, .int (nI (t6))), (11, .int (nI (cnN (LL k).1 30 (LL k).2.2))), (10, .int (nI (cnN (LL k).1 27 (LL k).2.2))), (9, .int (nI ((LL k).2.2))), (8, .int (nI (k))), (7, .int (nI (lc))), (5, .long (D0)), (4, .int (x)), (3, .int (nI (t))), (2, .ref (so)), (1, .ref (AD 0)), (0, .ref (b))]) : W p l e room_1 s m #[Value.ref b] below meth c H locs C Z Q (F0 m 283 ls []) := by
  have S : CallFix p m c cL_law 18 s #[Value.ref b] wsL_law RL := ⟨hx, hb, hml, hown, hts⟩
  have rC : 200000 ≤ room_1.cells := Nat.le_of_ble_eq_true rfl
  have rS : 2000000 ≤ room_1.slots := Nat.le_of_ble_eq_true rfl
  have hlc12 := hI.1
  have hec24 := hI.2.1
  have hBso : B ≤ so := hW.2.1.1
  have hB0B : s.heap.size ≤ B := hJD.2.2
  have hle := hI.le hk
  refine lv_iconst (v := nI (0)) hx hb dL_law_283 (by decide +kernel) ?_
  refine lv_toI (z := nI (psM (paP (LL k).1 t6 false) 0)) (rfl) ?_
  refine lv_istore (lv' := [(13, .int (nI (psM (paP (LL k).1 t6 false) 0))), (12, .int (nI (t6))), (11, .int (nI (cnN (LL k).1 30 (LL k).2.2))), (10, .int (nI (cnN (LL k).1 27 (LL k).2.2))), (9, .int (nI ((LL k).2.2))), (8, .int (nI (k))), (7, .int (nI (lc))), (5, .long (D0)), (4, .int (x)), (3, .int (nI (t))), (2, .ref (so)), (1, .ref (AD 0)), (0, .ref (b))]) hx hb dL_law_284 hl (by decide) rfl (fun ls hl => ?_)
  refine lv_iconst (v := nI (0)) hx hb dL_law_286 (by decide +kernel) ?_
  refine lv_istore (lv' := [(14, .int (nI (0))), (13, .int (nI (psM (paP (LL k).1 t6 false) 0))), (12, .int (nI (t6))), (11, .int (nI (cnN (LL k).1 30 (LL k).2.2))), (10, .int (nI (cnN (LL k).1 27 (LL k).2.2))), (9, .int (nI ((LL k).2.2))), (8, .int (nI (k))), (7, .int (nI (lc))), (5, .long (D0)), (4, .int (x)), (3, .int (nI (t))), (2, .ref (so)), (1, .ref (AD 0)), (0, .ref (b))]) hx hb dL_law_287 hl (by decide) rfl (fun ls hl => ?_)
  have L289 : ∀ (k1 i : Nat) (ls : Array Slot), ((LL k).2.2 + 1 - t6) - i < k1 → i ≤ ((LL k).2.2 + 1 - t6) → lv_has ls 18 [(14, .int (nI i)), (13, .int (nI (psM (paP (LL k).1 t6 false) i))), (12, .int (nI (t6))), (11, .int (nI (cnN (LL k).1 30 (LL k).2.2))), (10, .int (nI (cnN (LL k).1 27 (LL k).2.2))), (9, .int (nI ((LL k).2.2))), (8, .int (nI (k))), (7, .int (nI (lc))), (5, .long (D0)), (4, .int (x)), (3, .int (nI (t))), (2, .ref (so)), (1, .ref (AD 0)), (0, .ref (b))] → W p l e room_1 s m #[Value.ref b] below meth c H locs C Z Q (F0 m 289 ls []) := by
    intro k1
    induction k1 with
    | zero => intro i ls hFu; exact absurd hFu (Nat.not_lt_zero _)
    | succ k1 ih1 =>
      intro i ls hFu hLe hl
      refine lv_iload hx hb dL_law_289 (lv_at hl 0 rfl) ?_
      refine lv_iload hx hb dL_law_291 (lv_at hl 2 rfl) ?_
      refine lv_iadd hx hb dL_law_293 ?_
      refine lv_toI (z := nI (i + t6)) (nI_add _ _) ?_
      refine lv_iload hx hb dL_law_294 (lv_at hl 5 rfl) ?_
      refine br_gt (a := i + t6) (b := (LL k).2.2) (tgt := 354) hx hb (by omega) (by omega) dL_law_296 (by decide) (fun c296 => ?_) (fun c296 => ?_)
      · obtain rfl : ((LL k).2.2 + 1 - t6) = i := by omega
        exact kx ls (lv_sub hl [1, 2, 3, 4, 5, 6, 7, 8, 9, 10, 11, 12, 13] rfl)
      · refine lv_iconst (v := nI (0)) hx hb dL_law_299 (by decide +kernel) ?_
        have hl : lv_has ls 18 [(14, .int (nI i)), (13, .int (nI (psM (paP (LL k).1 t6 false) i + ctN (fun u9 => paP (LL k).1 t6 false u9 i) 0))), (12, .int (nI (t6))), (11, .int (nI (cnN (LL k).1 30 (LL k).2.2))), (10, .int (nI (cnN (LL k).1 27 (LL k).2.2))), (9, .int (nI ((LL k).2.2))), (8, .int (nI (k))), (7, .int (nI (lc))), (5, .long (D0)), (4, .int (x)), (3, .int (nI (t))), (2, .ref (so)), (1, .ref (AD 0)), (0, .ref (b))] := by exact hl
        refine lv_istore (lv' := [(15, .int (nI (0))), (14, .int (nI i)), (13, .int (nI (psM (paP (LL k).1 t6 false) i + ctN (fun u9 => paP (LL k).1 t6 false u9 i) 0))), (12, .int (nI (t6))), (11, .int (nI (cnN (LL k).1 30 (LL k).2.2))), (10, .int (nI (cnN (LL k).1 27 (LL k).2.2))), (9, .int (nI ((LL k).2.2))), (8, .int (nI (k))), (7, .int (nI (lc))), (5, .long (D0)), (4, .int (x)), (3, .int (nI (t))), (2, .ref (so)), (1, .ref (AD 0)), (0, .ref (b))]) hx hb dL_law_300 hl (by decide) rfl (fun ls hl => ?_)
        have L302 : ∀ (k2 j : Nat) (ls : Array Slot), i - j < k2 → j ≤ i → lv_has ls 18 [(15, .int (nI j)), (14, .int (nI i)), (13, .int (nI (psM (paP (LL k).1 t6 false) i + ctN (fun u9 => paP (LL k).1 t6 false u9 i) j))), (12, .int (nI (t6))), (11, .int (nI (cnN (LL k).1 30 (LL k).2.2))), (10, .int (nI (cnN (LL k).1 27 (LL k).2.2))), (9, .int (nI ((LL k).2.2))), (8, .int (nI (k))), (7, .int (nI (lc))), (5, .long (D0)), (4, .int (x)), (3, .int (nI (t))), (2, .ref (so)), (1, .ref (AD 0)), (0, .ref (b))] → W p l e room_1 s m #[Value.ref b] below meth c H locs C Z Q (F0 m 302 ls []) := by
          intro k2
          induction k2 with
          | zero => intro j ls hFu; exact absurd hFu (Nat.not_lt_zero _)
          | succ k2 ih2 =>
            intro j ls hFu hLe hl
            refine lv_iload hx hb dL_law_302 (lv_at hl 0 rfl) ?_
            refine lv_iload hx hb dL_law_304 (lv_at hl 1 rfl) ?_
            refine br_ge (a := j) (b := i) (tgt := 348) hx hb (by omega) (by omega) dL_law_306 (by decide) (fun c306 => ?_) (fun c306 => ?_)
            · obtain rfl : i = j := by omega
              have hl : lv_has ls 18 [(15, .int (nI i)), (14, .int (nI i)), (13, .int (nI (psM (paP (LL k).1 t6 false) (i + 1)))), (12, .int (nI (t6))), (11, .int (nI (cnN (LL k).1 30 (LL k).2.2))), (10, .int (nI (cnN (LL k).1 27 (LL k).2.2))), (9, .int (nI ((LL k).2.2))), (8, .int (nI (k))), (7, .int (nI (lc))), (5, .long (D0)), (4, .int (x)), (3, .int (nI (t))), (2, .ref (so)), (1, .ref (AD 0)), (0, .ref (b))] := by exact hl
              refine lv_iinc (v := nI (i + 1)) (lv' := [(14, .int (nI (i + 1))), (15, .int (nI i)), (13, .int (nI (psM (paP (LL k).1 t6 false) (i + 1)))), (12, .int (nI (t6))), (11, .int (nI (cnN (LL k).1 30 (LL k).2.2))), (10, .int (nI (cnN (LL k).1 27 (LL k).2.2))), (9, .int (nI ((LL k).2.2))), (8, .int (nI (k))), (7, .int (nI (lc))), (5, .long (D0)), (4, .int (x)), (3, .int (nI (t))), (2, .ref (so)), (1, .ref (AD 0)), (0, .ref (b))]) hx hb dL_law_348 hl (k := 1) rfl (nI_1 _) (by decide) rfl (fun ls hl => ?_)
              refine lv_goto (tgt := 289) hx hb dL_law_351 (by decide) ?_
              exact ih1 (i + 1) _ (by omega) (by omega) (lv_sub hl [0, 2, 3, 4, 5, 6, 7, 8, 9, 10, 11, 12, 13, 14] rfl)
            · refine lv_iload hx hb dL_law_309 (lv_at hl 2 rfl) ?_
              refine lv_aload_n hx hb dL_law_311 rfl (lv_at hl 13 rfl) ?_
              refine lv_iload hx hb dL_law_312 (lv_at hl 7 rfl) ?_
              refine lv_iload hx hb dL_law_314 (lv_at hl 1 rfl) ?_
              refine lv_iload hx hb dL_law_316 (lv_at hl 3 rfl) ?_
              refine p_V (As := [.int (nI (k)), .int (nI i), .int (nI (t6))]) (rest := [.int (nI (psM (paP (LL k).1 t6 false) i + ctN (fun u9 => paP (LL k).1 t6 false u9 i) j))]) S (c_X2_sumOf l g AD LL EE LN lc ec hI.1 hI.2.1 hI.hLL hI.hEE k hk i t6 (by omega) (by omega)) (cwV 3 hts gL_law_X2_sumOf rfl rfl rfl (by decide +kernel) ⟨Nat.le_of_ble_eq_true rfl, Nat.le_of_ble_eq_true rfl⟩) hK (va_recv hK.1 hDk (ci := 2) (q0 := 0) rfl dk_me) hDk rfl hl.1 rfl (Nat.le_of_ble_eq_true rfl) dL_law_318 ⟨by show _ ≤ room_1.cells; omega, by show _ ≤ room_1.slots; omega⟩ ?_
              refine lv_aload_n hx hb dL_law_321 rfl (lv_at hl 13 rfl) ?_
              refine lv_iload hx hb dL_law_322 (lv_at hl 7 rfl) ?_
              refine lv_iload hx hb dL_law_324 (lv_at hl 0 rfl) ?_
              refine lv_iload hx hb dL_law_326 (lv_at hl 3 rfl) ?_
              refine p_V (As := [.int (nI (k)), .int (nI j), .int (nI (t6))]) (rest := [.int (wnF (LL k).1 i t6), .int (nI (psM (paP (LL k).1 t6 false) i + ctN (fun u9 => paP (LL k).1 t6 false u9 i) j))]) S (c_X2_sumOf l g AD LL EE LN lc ec hI.1 hI.2.1 hI.hLL hI.hEE k hk j t6 (by omega) (by omega)) (cwV 3 hts gL_law_X2_sumOf rfl rfl rfl (by decide +kernel) ⟨Nat.le_of_ble_eq_true rfl, Nat.le_of_ble_eq_true rfl⟩) hK (va_recv hK.1 hDk (ci := 2) (q0 := 0) rfl dk_me) hDk rfl hl.1 rfl (Nat.le_of_ble_eq_true rfl) dL_law_328 ⟨by show _ ≤ room_1.cells; omega, by show _ ≤ room_1.slots; omega⟩ ?_
              refine lv_icmp_ne (tgt := 338) hx hb dL_law_331 (by decide) (fun c331 => ?_) (fun c331 => ?_)
              · refine lv_iconst (v := bI false) hx hb dL_law_338 (by decide +kernel) ?_
                refine lv_iadd hx hb dL_law_339 ?_
                refine lv_toI (z := nI (psM (paP (LL k).1 t6 false) i + ctN (fun u9 => paP (LL k).1 t6 false u9 i) (j + 1))) (ps_go _ (by first | (rw [decide_eq_true c331]) | (rw [decide_eq_false c331]))) ?_
                refine lv_istore (lv' := [(13, .int (nI (psM (paP (LL k).1 t6 false) i + ctN (fun u9 => paP (LL k).1 t6 false u9 i) (j + 1)))), (15, .int (nI j)), (14, .int (nI i)), (12, .int (nI (t6))), (11, .int (nI (cnN (LL k).1 30 (LL k).2.2))), (10, .int (nI (cnN (LL k).1 27 (LL k).2.2))), (9, .int (nI ((LL k).2.2))), (8, .int (nI (k))), (7, .int (nI (lc))), (5, .long (D0)), (4, .int (x)), (3, .int (nI (t))), (2, .ref (so)), (1, .ref (AD 0)), (0, .ref (b))]) hx hb dL_law_340 hl (by decide) rfl (fun ls hl => ?_)
                refine lv_iinc (v := nI (j + 1)) (lv' := [(15, .int (nI (j + 1))), (13, .int (nI (psM (paP (LL k).1 t6 false) i + ctN (fun u9 => paP (LL k).1 t6 false u9 i) (j + 1)))), (14, .int (nI i)), (12, .int (nI (t6))), (11, .int (nI (cnN (LL k).1 30 (LL k).2.2))), (10, .int (nI (cnN (LL k).1 27 (LL k).2.2))), (9, .int (nI ((LL k).2.2))), (8, .int (nI (k))), (7, .int (nI (lc))), (5, .long (D0)), (4, .int (x)), (3, .int (nI (t))), (2, .ref (so)), (1, .ref (AD 0)), (0, .ref (b))]) hx hb dL_law_342 hl (k := 1) rfl (nI_1 _) (by decide) rfl (fun ls hl => ?_)
                refine lv_goto (tgt := 302) hx hb dL_law_345 (by decide) ?_
                exact ih2 (j + 1) _ (by omega) (by omega) (lv_sub hl [0, 2, 1, 3, 4, 5, 6, 7, 8, 9, 10, 11, 12, 13, 14] rfl)
              · refine lv_iconst (v := bI true) hx hb dL_law_334 (by decide +kernel) ?_
                refine lv_goto (tgt := 339) hx hb dL_law_335 (by decide) ?_
                refine lv_iadd hx hb dL_law_339 ?_
                refine lv_toI (z := nI (psM (paP (LL k).1 t6 false) i + ctN (fun u9 => paP (LL k).1 t6 false u9 i) (j + 1))) (ps_go _ (by first | (rw [decide_eq_true c331]) | (rw [decide_eq_false c331]))) ?_
                refine lv_istore (lv' := [(13, .int (nI (psM (paP (LL k).1 t6 false) i + ctN (fun u9 => paP (LL k).1 t6 false u9 i) (j + 1)))), (15, .int (nI j)), (14, .int (nI i)), (12, .int (nI (t6))), (11, .int (nI (cnN (LL k).1 30 (LL k).2.2))), (10, .int (nI (cnN (LL k).1 27 (LL k).2.2))), (9, .int (nI ((LL k).2.2))), (8, .int (nI (k))), (7, .int (nI (lc))), (5, .long (D0)), (4, .int (x)), (3, .int (nI (t))), (2, .ref (so)), (1, .ref (AD 0)), (0, .ref (b))]) hx hb dL_law_340 hl (by decide) rfl (fun ls hl => ?_)
                refine lv_iinc (v := nI (j + 1)) (lv' := [(15, .int (nI (j + 1))), (13, .int (nI (psM (paP (LL k).1 t6 false) i + ctN (fun u9 => paP (LL k).1 t6 false u9 i) (j + 1)))), (14, .int (nI i)), (12, .int (nI (t6))), (11, .int (nI (cnN (LL k).1 30 (LL k).2.2))), (10, .int (nI (cnN (LL k).1 27 (LL k).2.2))), (9, .int (nI ((LL k).2.2))), (8, .int (nI (k))), (7, .int (nI (lc))), (5, .long (D0)), (4, .int (x)), (3, .int (nI (t))), (2, .ref (so)), (1, .ref (AD 0)), (0, .ref (b))]) hx hb dL_law_342 hl (k := 1) rfl (nI_1 _) (by decide) rfl (fun ls hl => ?_)
                refine lv_goto (tgt := 302) hx hb dL_law_345 (by decide) ?_
                exact ih2 (j + 1) _ (by omega) (by omega) (lv_sub hl [0, 2, 1, 3, 4, 5, 6, 7, 8, 9, 10, 11, 12, 13, 14] rfl)
        exact L302 (i + 1) (0) _ (by omega) (by omega) (lv_sub hl [0, 1, 2, 3, 4, 5, 6, 7, 8, 9, 10, 11, 12, 13, 14] rfl)
  exact L289 (((LL k).2.2 + 1 - t6) + 1) (0) _ (by omega) (by omega) (lv_sub hl [0, 1, 2, 3, 4, 5, 6, 7, 8, 9, 10, 11, 12, 13] rfl)

set_option maxHeartbeats 4000000 in
set_option maxRecDepth 100000 in
/-- a letter: pairs and false alarms as counted -/
theorem law_354 {p : Program} {e : Env} {s : State} {m : MethodId} {below : List Frame} {meth : Method} {c : Code} {Q : State → Prop} (l : Launch) (hlt : l.stackTraces = false) (g : gT) {b L : Nat} {xs : Nat → Int32} {B so : Nat} {AD : Nat → Nat} (hx : p.tables.exec = Jvm.exec) (hb : c.code = cL_law) (hml : c.maxLocals = 18) (hts : ∀ w ∈ wsL_law, w.before #[Value.ref b] s = true) (hown : s.vm.findClass RL = some m.cls) (hK : KK g s) (hZ0 : ZB s.heap.size s s.heap) (hX0 : va_X b L xs s s.heap) (hL : L < 1000) (hJD : JD s.heap.size B AD)
    {LL : Nat → ltT} {EE : Nat → evT} {LN : Nat → Nat} {TT : Nat → (Nat → Int32) × Nat} {lc ec la ea : Nat} {ra xa ta : Nat → Nat} {H : Heap} {locs : List Loc} {C Z : Nat} (hC : C ≤ 100000) (hZ : Z ≤ 1000000) (hI : Iv LL EE LN TT lc ec) (hDk : va_P (gD g) vwCl (wsD g AD LL EE lc ec) H) (hW : SW g B so la ea ra xa ta LL EE TT lc ec H) (hS : va_S (bA s.heap.size) s.heap H locs)
    {t : Nat} {x : Int32} {D0 : Int64} {k t6 : Nat} (hk : k < lc) (ht1 : 1 ≤ t6) (ht2 : t6 ≤ 6)
    (kx : ∀ (M : Nat → ltT) (H : Heap) (locs : List Loc) (ls : Array Slot), smL LL M → Iv M EE LN TT lc ec → va_P (gD g) vwCl (wsD g AD M EE lc ec) H → SW g B so la ea ra xa ta M EE TT lc ec H → va_S (bA s.heap.size) s.heap H locs → lv_has ls 18 [(12, .int (nI (t6))), (11, .int (nI (cnN (LL k).1 30 (LL k).2.2))), (9, .int (nI ((LL k).2.2))), (8, .int (nI (k))), (7, .int (nI (lc))), (5, .long (D0)), (4, .int (x)), (3, .int (nI (t))), (2, .ref (so)), (1, .ref (AD 0)), (0, .ref (b))] → W p l e room_1 s m #[Value.ref b] below meth c H locs C Z Q (F0 m 393 ls [])) (ls : Array Slot) (hl : lv_has ls 18 [(13, .int (nI (psM (paP (LL k).1 t6 false) ((LL k).2.2 + 1 - t6)))), (12, .int (nI (t6))), (11, .int (nI (cnN (LL k).1 30 (LL k).2.2))), (10, .int (nI (cnN (LL k).1 27 (LL k).2.2))), (9, .int (nI ((LL k).2.2))), (8, .int (nI (k))), (7, .int (nI (lc))), (5, .long (D0)), (4, .int (x)), (3, .int (nI (t))), (2, .ref (so)), (1, .ref (AD 0)), (0, .ref (b))]) : W p l e room_1 s m #[Value.ref b] below meth c H locs C Z Q (F0 m 354 ls []) := by
  have S : CallFix p m c cL_law 18 s #[Value.ref b] wsL_law RL := ⟨hx, hb, hml, hown, hts⟩
  have rC : 200000 ≤ room_1.cells := Nat.le_of_ble_eq_true rfl
  have rS : 2000000 ≤ room_1.slots := Nat.le_of_ble_eq_true rfl
  have hlc12 := hI.1
  have hec24 := hI.2.1
  have hBso : B ≤ so := hW.2.1.1
  have hB0B : s.heap.size ≤ B := hJD.2.2
  have hle := hI.le hk
  have hp1 := ps_le (paP (LL k).1 t6 false) ((LL k).2.2 + 1 - t6)
  have hp2 := ps_mono (P := paP (LL k).1 t6 true) (Q := paP (LL k).1 t6 false) (fun i j h => pa_mono i j h) ((LL k).2.2 + 1 - t6)
  refine lv_aload_n hx hb dL_law_354 rfl (lv_at hl 11 rfl) ?_
  refine lv_iload hx hb dL_law_355 (lv_at hl 5 rfl) ?_
  refine lv_iload hx hb dL_law_357 (lv_at hl 1 rfl) ?_
  refine w_V (As := [.int (nI (k)), .int (nI (t6))]) (rest := []) S (c_X2_sameSums l g AD LL EE LN lc ec hI.1 hI.2.1 hI.hLL hI.hEE k hk t6 ht1 (by omega)) (cwV 2 hts gL_law_X2_sameSums rfl rfl rfl (by decide +kernel) ⟨Nat.le_of_ble_eq_true rfl, Nat.le_of_ble_eq_true rfl⟩) hK (va_recv hK.1 hDk (ci := 2) (q0 := 0) rfl dk_me) hDk hJD.D hS (fun q hq => (hJD.wA hq).1) rfl hl.1 rfl (Nat.le_of_ble_eq_true rfl) dL_law_359 ⟨by show _ ≤ room_1.cells; omega, by show _ ≤ room_1.slots; omega⟩ (fun H locs hDk hz1 hk1 hS => ?_)
  have hC9 : CH (wA (wsD g AD LL EE lc ec)) _ H := ⟨hz1, hk1⟩
  have hW := hW.keep hC9 (fun q h1 _ h2 => by have := hJD.wA h2; omega)
  obtain ⟨M1, eM1⟩ : ∃ M : Nat → ltT, M = fup LL k (((LL k).1, wnV (LL k).1 (LL k).2.1 t6 (LL k).2.2, (LL k).2.2) : ltT) := ⟨_, rfl⟩
  rw [← eM1] at hDk
  have hs1 : smL LL M1 := by rw [eM1]; exact smL_fup _
  have hI := hI.same hs1
  have hW := hW.sameL hs1
  have hm1 : smL LL M1 := hs1
  refine lv_toI (z := nI (psM (paP (LL k).1 t6 false) ((LL k).2.2 + 1 - t6))) (ss_nat ht1) ?_
  refine lv_iload hx hb dL_law_362 (lv_at hl 0 rfl) ?_
  refine br_ne (a := psM (paP (LL k).1 t6 false) ((LL k).2.2 + 1 - t6)) (b := psM (paP (LL k).1 t6 false) ((LL k).2.2 + 1 - t6)) (tgt := 391) hx hb (by omega) (by omega) dL_law_364 (by decide) (fun c364 => ?_) (fun c364 => ?_)
  · exact absurd rfl c364
  · refine lv_aload_n hx hb dL_law_367 rfl (lv_at hl 11 rfl) ?_
    refine lv_iload hx hb dL_law_368 (lv_at hl 5 rfl) ?_
    refine lv_iload hx hb dL_law_370 (lv_at hl 1 rfl) ?_
    refine w_V (As := [.int (nI (k)), .int (nI (t6))]) (rest := []) S (c_X2_falseAlarms l g AD M1 EE LN lc ec hI.1 hI.2.1 hI.hLL hI.hEE k hk t6 ht1 (by omega)) (cwV 2 hts gL_law_X2_falseAlarms rfl rfl rfl (by decide +kernel) ⟨Nat.le_of_ble_eq_true rfl, Nat.le_of_ble_eq_true rfl⟩) hK (va_recv hK.1 hDk (ci := 2) (q0 := 0) rfl dk_me) hDk hJD.D hS (fun q hq => (hJD.wA hq).1) rfl hl.1 rfl (Nat.le_of_ble_eq_true rfl) dL_law_372 ⟨by show _ ≤ room_1.cells; omega, by show _ ≤ room_1.slots; omega⟩ (fun H locs hDk hz1 hk1 hS => ?_)
    have hC9 : CH (wA (wsD g AD M1 EE lc ec)) _ H := ⟨hz1, hk1⟩
    have hW := hW.keep hC9 (fun q h1 _ h2 => by have := hJD.wA h2; omega)
    obtain ⟨M2, eM2⟩ : ∃ M : Nat → ltT, M = fup M1 k (((M1 k).1, wnV (M1 k).1 (M1 k).2.1 t6 (M1 k).2.2, (M1 k).2.2) : ltT) := ⟨_, rfl⟩
    rw [← eM2] at hDk
    have hs2 : smL M1 M2 := by rw [eM2]; exact smL_fup _
    have hI := hI.same hs2
    have hW := hW.sameL hs2
    have hm2 : smL LL M2 := hm1.trans hs2
    refine lv_toI (z := nI (psM (paP (LL k).1 t6 true) ((LL k).2.2 + 1 - t6))) (by rw [(hm1 k).1, (hm1 k).2]; exact ss_nat ht1) ?_
    refine lv_iload hx hb dL_law_375 (lv_at hl 0 rfl) ?_
    refine br_gt (a := psM (paP (LL k).1 t6 true) ((LL k).2.2 + 1 - t6)) (b := psM (paP (LL k).1 t6 false) ((LL k).2.2 + 1 - t6)) (tgt := 391) hx hb (by omega) (by omega) dL_law_377 (by decide) (fun c377 => ?_) (fun c377 => ?_)
    · exact (by omega : False).elim
    · refine lv_aload_n hx hb dL_law_380 rfl (lv_at hl 11 rfl) ?_
      refine lv_iload hx hb dL_law_381 (lv_at hl 5 rfl) ?_
      refine lv_iload hx hb dL_law_383 (lv_at hl 1 rfl) ?_
      refine w_V (As := [.int (nI (k)), .int (nI (t6))]) (rest := []) S (c_X2_falseAlarms l g AD M2 EE LN lc ec hI.1 hI.2.1 hI.hLL hI.hEE k hk t6 ht1 (by omega)) (cwV 2 hts gL_law_X2_falseAlarms rfl rfl rfl (by decide +kernel) ⟨Nat.le_of_ble_eq_true rfl, Nat.le_of_ble_eq_true rfl⟩) hK (va_recv hK.1 hDk (ci := 2) (q0 := 0) rfl dk_me) hDk hJD.D hS (fun q hq => (hJD.wA hq).1) rfl hl.1 rfl (Nat.le_of_ble_eq_true rfl) dL_law_385 ⟨by show _ ≤ room_1.cells; omega, by show _ ≤ room_1.slots; omega⟩ (fun H locs hDk hz1 hk1 hS => ?_)
      have hC9 : CH (wA (wsD g AD M2 EE lc ec)) _ H := ⟨hz1, hk1⟩
      have hW := hW.keep hC9 (fun q h1 _ h2 => by have := hJD.wA h2; omega)
      obtain ⟨M3, eM3⟩ : ∃ M : Nat → ltT, M = fup M2 k (((M2 k).1, wnV (M2 k).1 (M2 k).2.1 t6 (M2 k).2.2, (M2 k).2.2) : ltT) := ⟨_, rfl⟩
      rw [← eM3] at hDk
      have hs3 : smL M2 M3 := by rw [eM3]; exact smL_fup _
      have hI := hI.same hs3
      have hW := hW.sameL hs3
      have hm3 : smL LL M3 := hm2.trans hs3
      refine lv_toI (z := nI (psM (paP (LL k).1 t6 true) ((LL k).2.2 + 1 - t6))) (by rw [(hm2 k).1, (hm2 k).2]; exact ss_nat ht1) ?_
      refine br_ge0 (a := psM (paP (LL k).1 t6 true) ((LL k).2.2 + 1 - t6)) (tgt := 393) hx hb (by omega) dL_law_388 (by decide) (fun c388 => ?_) (fun c388 => ?_)
      · exact kx M3 H _ ls hm3 hI hDk hW hS (lv_sub hl [1, 2, 4, 5, 6, 7, 8, 9, 10, 11, 12] rfl)
      · exact c388.elim

set_option maxHeartbeats 4000000 in
set_option maxRecDepth 100000 in
/-- nowhere -/
theorem law_459a {p : Program} {e : Env} {s : State} {m : MethodId} {below : List Frame} {meth : Method} {c : Code} {Q : State → Prop} (l : Launch) (hlt : l.stackTraces = false) (g : gT) {b L : Nat} {xs : Nat → Int32} {B so : Nat} {AD : Nat → Nat} (hx : p.tables.exec = Jvm.exec) (hb : c.code = cL_law) (hml : c.maxLocals = 18) (hts : ∀ w ∈ wsL_law, w.before #[Value.ref b] s = true) (hown : s.vm.findClass RL = some m.cls) (hK : KK g s) (hZ0 : ZB s.heap.size s s.heap) (hX0 : va_X b L xs s s.heap) (hL : L < 1000) (hJD : JD s.heap.size B AD)
    {LL : Nat → ltT} {EE : Nat → evT} {LN : Nat → Nat} {TT : Nat → (Nat → Int32) × Nat} {lc ec la ea : Nat} {ra xa ta : Nat → Nat} {H : Heap} {locs : List Loc} {C Z : Nat} (hC : C ≤ 100000) (hZ : Z ≤ 1000000) (hI : Iv LL EE LN TT lc ec) (hDk : va_P (gD g) vwCl (wsD g AD LL EE lc ec) H) (hW : SW g B so la ea ra xa ta LL EE TT lc ec H) (hS : va_S (bA s.heap.size) s.heap H locs)
    {t : Nat} {x : Int32} {D0 : Int64} {k t6 o : Nat} (hk : k < lc) (ho : o < lc) (hno : 0 < (LL o).2.2) (hall : ∀ j, 0 ≤ j → j < 0 + ((LL k).2.2 + 1 - (LL o).2.2) → eqR (LL k).1 j (LL o).1 0 (LL o).2.2 = false)
    (kx : ∀ (ls : Array Slot), lv_has ls 18 [(11, .int (nI (cnN (LL k).1 30 (LL k).2.2))), (9, .int (nI ((LL k).2.2))), (8, .int (nI (k))), (7, .int (nI (lc))), (5, .long (D0)), (4, .int (x)), (3, .int (nI (t))), (2, .ref (so)), (1, .ref (AD 0)), (0, .ref (b))] → W p l e room_1 s m #[Value.ref b] below meth c H locs C Z Q (F0 m 516 ls [])) (ls : Array Slot) (hl : lv_has ls 18 [(15, .int ((-1))), (14, .int (nI (o))), (12, .int (nI (t6))), (11, .int (nI (cnN (LL k).1 30 (LL k).2.2))), (9, .int (nI ((LL k).2.2))), (8, .int (nI (k))), (7, .int (nI (lc))), (5, .long (D0)), (4, .int (x)), (3, .int (nI (t))), (2, .ref (so)), (1, .ref (AD 0)), (0, .ref (b))]) : W p l e room_1 s m #[Value.ref b] below meth c H locs C Z Q (F0 m 459 ls []) := by
  have S : CallFix p m c cL_law 18 s #[Value.ref b] wsL_law RL := ⟨hx, hb, hml, hown, hts⟩
  have rC : 200000 ≤ room_1.cells := Nat.le_of_ble_eq_true rfl
  have rS : 2000000 ≤ room_1.slots := Nat.le_of_ble_eq_true rfl
  have hlc12 := hI.1
  have hec24 := hI.2.1
  have hBso : B ≤ so := hW.2.1.1
  have hB0B : s.heap.size ≤ B := hJD.2.2
  have hle := hI.le hk
  have hleo := hI.le ho
  have iX4 : ∀ w ∈ u_ws RX4 TX4 2, w ∈ wsL_law := by decide +kernel
  have f9 := hts (.fieldLink RL 9 "LetterSealsLaw$Sim" "letters" "[[I") (by decide +kernel)
  refine lv_iconst (v := nI (0)) hx hb dL_law_459 (by decide +kernel) ?_
  refine lv_istore (lv' := [(16, .int (nI (0))), (15, .int ((-1))), (14, .int (nI (o))), (12, .int (nI (t6))), (11, .int (nI (cnN (LL k).1 30 (LL k).2.2))), (9, .int (nI ((LL k).2.2))), (8, .int (nI (k))), (7, .int (nI (lc))), (5, .long (D0)), (4, .int (x)), (3, .int (nI (t))), (2, .ref (so)), (1, .ref (AD 0)), (0, .ref (b))]) hx hb dL_law_460 hl (by decide) rfl (fun ls hl => ?_)
  have L462 : ∀ (k1 i : Nat) (ls : Array Slot), ((LL k).2.2) - i < k1 → i ≤ ((LL k).2.2) → lv_has ls 18 [(16, .int (nI i)), (15, .int ((-1))), (14, .int (nI (o))), (12, .int (nI (t6))), (11, .int (nI (cnN (LL k).1 30 (LL k).2.2))), (9, .int (nI ((LL k).2.2))), (8, .int (nI (k))), (7, .int (nI (lc))), (5, .long (D0)), (4, .int (x)), (3, .int (nI (t))), (2, .ref (so)), (1, .ref (AD 0)), (0, .ref (b))] → W p l e room_1 s m #[Value.ref b] below meth c H locs C Z Q (F0 m 462 ls []) := by
    intro k1
    induction k1 with
    | zero => intro i ls hFu; exact absurd hFu (Nat.not_lt_zero _)
    | succ k1 ih1 =>
      intro i ls hFu hLe hl
      refine lv_iload hx hb dL_law_462 (lv_at hl 0 rfl) ?_
      refine lv_iload hx hb dL_law_464 (lv_at hl 1 rfl) ?_
      refine lv_if_ge (tgt := 474) hx hb dL_law_466 (by decide) (fun c466 => ?_) (fun c466 => ?_)
      · exact absurd c466 (by decide +kernel)
      · refine lv_iload hx hb dL_law_469 (lv_at hl 5 rfl) ?_
        refine lv_goto (tgt := 476) hx hb dL_law_471 (by decide) ?_
        refine br_ge (a := i) (b := (LL k).2.2) (tgt := 516) hx hb (by omega) (by omega) dL_law_476 (by decide) (fun c476 => ?_) (fun c476 => ?_)
        · obtain rfl : ((LL k).2.2) = i := by omega
          exact kx ls (lv_sub hl [4, 5, 6, 7, 8, 9, 10, 11, 12, 13] rfl)
        · refine lv_aload_n hx hb dL_law_479 rfl (lv_at hl 11 rfl) ?_
          refine va_get (D := gD g) (ci := 4) (v := .ref (la)) (C := RX4) (T := TX4) (N := 2) hx hb hts iX4 hown hK.1 hW.1.1 0 rfl rfl 0 (by decide) f9 (fun _ h9 => h9) rfl dL_law_480 ?_
          refine lv_iload hx hb dL_law_483 (lv_at hl 6 rfl) ?_
          refine gt_A (k := k) (r := ra k) hx hb hK hW.1.2.1 rfl (by omega) (by omega) dL_law_485 ?_
          refine lv_iload hx hb dL_law_486 (lv_at hl 0 rfl) ?_
          refine lv_aload_n hx hb dL_law_488 rfl (lv_at hl 11 rfl) ?_
          refine va_get (D := gD g) (ci := 4) (v := .ref (la)) (C := RX4) (T := TX4) (N := 2) hx hb hts iX4 hown hK.1 hW.1.1 0 rfl rfl 0 (by decide) f9 (fun _ h9 => h9) rfl dL_law_489 ?_
          refine lv_iload hx hb dL_law_492 (lv_at hl 2 rfl) ?_
          refine gt_A (k := o) (r := ra o) hx hb hK hW.1.2.1 rfl (by omega) (by omega) dL_law_494 ?_
          refine lv_iconst (v := nI 0) hx hb dL_law_495 (by decide +kernel) ?_
          refine lv_aload_n hx hb dL_law_496 rfl (lv_at hl 12 rfl) ?_
          refine lv_iload hx hb dL_law_497 (lv_at hl 2 rfl) ?_
          refine p_V (As := [.int (nI (o))]) (rest := [.int (nI 0), .ref (ra o), .int (nI i), .ref (ra k)]) S (c_X2_signsOf l g AD LL EE LN lc ec hI.1 hI.2.1 hI.hLL hI.hEE o ho) (cwV 1 hts gL_law_X2_signsOf rfl rfl rfl (by decide +kernel) ⟨Nat.le_of_ble_eq_true rfl, Nat.le_of_ble_eq_true rfl⟩) hK (va_recv hK.1 hDk (ci := 2) (q0 := 0) rfl dk_me) hDk rfl hl.1 rfl (Nat.le_of_ble_eq_true rfl) dL_law_499 ⟨by show _ ≤ room_1.cells; omega, by show _ ≤ room_1.slots; omega⟩ ?_
          refine p_S (As := [.ref (ra k), .int (nI i), .ref (ra o), .int (nI 0), .int (nI ((LL o).2.2))]) (rest := []) S (c_X4_isAlike l g (ra k) (ra o) (LL k).1 (LL o).1 (LL k).2.2 (LL o).2.2 (by omega) (by omega) i 0 (LL o).2.2 (by omega) (by omega) (by omega)) (va_cwS 5 hts gL_law_X4_isAlike rfl rfl rfl (by decide +kernel) ⟨Nat.le_of_ble_eq_true rfl, Nat.le_of_ble_eq_true rfl⟩) hK ⟨(hW.2.2.1 k hk).1, (hW.2.2.1 o ho).1⟩ rfl hl.1 rfl (Nat.le_of_ble_eq_true rfl) dL_law_502 ⟨by show _ ≤ room_1.cells; omega, by show _ ≤ room_1.slots; omega⟩ ?_
          refine lv_toI (z := bI false) (alk_no (fun h9 => hall i (Nat.zero_le i) (by omega))) ?_
          refine br_eqB (tgt := 510) hx hb dL_law_505 (by decide) (fun c505 => ?_) (fun c505 => ?_)
          · refine lv_iinc (v := nI (i + 1)) (lv' := [(16, .int (nI (i + 1))), (15, .int ((-1))), (14, .int (nI (o))), (12, .int (nI (t6))), (11, .int (nI (cnN (LL k).1 30 (LL k).2.2))), (9, .int (nI ((LL k).2.2))), (8, .int (nI (k))), (7, .int (nI (lc))), (5, .long (D0)), (4, .int (x)), (3, .int (nI (t))), (2, .ref (so)), (1, .ref (AD 0)), (0, .ref (b))]) hx hb dL_law_510 hl (k := 0) rfl (nI_1 _) (by decide) rfl (fun ls hl => ?_)
            refine lv_goto (tgt := 462) hx hb dL_law_513 (by decide) ?_
            exact ih1 (i + 1) _ (by omega) (by omega) (lv_sub hl [0, 1, 2, 3, 4, 5, 6, 7, 8, 9, 10, 11, 12, 13] rfl)
          · exact absurd c505 (by decide)
  exact L462 (((LL k).2.2) + 1) (0) _ (by omega) (by omega) (lv_sub hl [0, 1, 2, 3, 4, 5, 6, 7, 8, 9, 10, 11, 12, 13] rfl)

set_option maxHeartbeats 4000000 in
set_option maxRecDepth 100000 in
/-- at j1 first -/
theorem law_459b {p : Program} {e : Env} {s : State} {m : MethodId} {below : List Frame} {meth : Method} {c : Code} {Q : State → Prop} (l : Launch) (hlt : l.stackTraces = false) (g : gT) {b L : Nat} {xs : Nat → Int32} {B so : Nat} {AD : Nat → Nat} (hx : p.tables.exec = Jvm.exec) (hb : c.code = cL_law) (hml : c.maxLocals = 18) (hts : ∀ w ∈ wsL_law, w.before #[Value.ref b] s = true) (hown : s.vm.findClass RL = some m.cls) (hK : KK g s) (hZ0 : ZB s.heap.size s s.heap) (hX0 : va_X b L xs s s.heap) (hL : L < 1000) (hJD : JD s.heap.size B AD)
    {LL : Nat → ltT} {EE : Nat → evT} {LN : Nat → Nat} {TT : Nat → (Nat → Int32) × Nat} {lc ec la ea : Nat} {ra xa ta : Nat → Nat} {H : Heap} {locs : List Loc} {C Z : Nat} (hC : C ≤ 100000) (hZ : Z ≤ 1000000) (hI : Iv LL EE LN TT lc ec) (hDk : va_P (gD g) vwCl (wsD g AD LL EE lc ec) H) (hW : SW g B so la ea ra xa ta LL EE TT lc ec H) (hS : va_S (bA s.heap.size) s.heap H locs)
    {t : Nat} {x : Int32} {D0 : Int64} {k t6 o : Nat} (hk : k < lc) (ho : o < lc) (hno : 0 < (LL o).2.2) {j1 : Nat} (hj1 : j1 < (LL k).2.2 + 1 - (LL o).2.2) (hall : ∀ x, 0 ≤ x → x < j1 → eqR (LL k).1 x (LL o).1 0 (LL o).2.2 = false)
    (kx : ∀ (ls : Array Slot), lv_has ls 18 [(11, .int (nI (cnN (LL k).1 30 (LL k).2.2))), (9, .int (nI ((LL k).2.2))), (8, .int (nI (k))), (7, .int (nI (lc))), (5, .long (D0)), (4, .int (x)), (3, .int (nI (t))), (2, .ref (so)), (1, .ref (AD 0)), (0, .ref (b))] → W p l e room_1 s m #[Value.ref b] below meth c H locs C Z Q (F0 m 516 ls [])) (ls : Array Slot) (hl : lv_has ls 18 [(15, .int (nI (j1))), (14, .int (nI (o))), (12, .int (nI (t6))), (11, .int (nI (cnN (LL k).1 30 (LL k).2.2))), (9, .int (nI ((LL k).2.2))), (8, .int (nI (k))), (7, .int (nI (lc))), (5, .long (D0)), (4, .int (x)), (3, .int (nI (t))), (2, .ref (so)), (1, .ref (AD 0)), (0, .ref (b))]) : W p l e room_1 s m #[Value.ref b] below meth c H locs C Z Q (F0 m 459 ls []) := by
  have S : CallFix p m c cL_law 18 s #[Value.ref b] wsL_law RL := ⟨hx, hb, hml, hown, hts⟩
  have rC : 200000 ≤ room_1.cells := Nat.le_of_ble_eq_true rfl
  have rS : 2000000 ≤ room_1.slots := Nat.le_of_ble_eq_true rfl
  have hlc12 := hI.1
  have hec24 := hI.2.1
  have hBso : B ≤ so := hW.2.1.1
  have hB0B : s.heap.size ≤ B := hJD.2.2
  have hle := hI.le hk
  have hleo := hI.le ho
  have iX4 : ∀ w ∈ u_ws RX4 TX4 2, w ∈ wsL_law := by decide +kernel
  have f9 := hts (.fieldLink RL 9 "LetterSealsLaw$Sim" "letters" "[[I") (by decide +kernel)
  refine lv_iconst (v := nI (0)) hx hb dL_law_459 (by decide +kernel) ?_
  refine lv_istore (lv' := [(16, .int (nI (0))), (15, .int (nI (j1))), (14, .int (nI (o))), (12, .int (nI (t6))), (11, .int (nI (cnN (LL k).1 30 (LL k).2.2))), (9, .int (nI ((LL k).2.2))), (8, .int (nI (k))), (7, .int (nI (lc))), (5, .long (D0)), (4, .int (x)), (3, .int (nI (t))), (2, .ref (so)), (1, .ref (AD 0)), (0, .ref (b))]) hx hb dL_law_460 hl (by decide) rfl (fun ls hl => ?_)
  have L462 : ∀ (k1 i : Nat) (ls : Array Slot), j1 - i < k1 → i ≤ j1 → lv_has ls 18 [(16, .int (nI i)), (15, .int (nI (j1))), (14, .int (nI (o))), (12, .int (nI (t6))), (11, .int (nI (cnN (LL k).1 30 (LL k).2.2))), (9, .int (nI ((LL k).2.2))), (8, .int (nI (k))), (7, .int (nI (lc))), (5, .long (D0)), (4, .int (x)), (3, .int (nI (t))), (2, .ref (so)), (1, .ref (AD 0)), (0, .ref (b))] → W p l e room_1 s m #[Value.ref b] below meth c H locs C Z Q (F0 m 462 ls []) := by
    intro k1
    induction k1 with
    | zero => intro i ls hFu; exact absurd hFu (Nat.not_lt_zero _)
    | succ k1 ih1 =>
      intro i ls hFu hLe hl
      refine lv_iload hx hb dL_law_462 (lv_at hl 0 rfl) ?_
      refine lv_iload hx hb dL_law_464 (lv_at hl 1 rfl) ?_
      refine br_ge0 (a := j1) (tgt := 474) hx hb (by omega) dL_law_466 (by decide) (fun c466 => ?_) (fun c466 => ?_)
      · refine lv_iload hx hb dL_law_474 (lv_at hl 1 rfl) ?_
        refine br_ge (a := i) (b := j1) (tgt := 516) hx hb (by omega) (by omega) dL_law_476 (by decide) (fun c476 => ?_) (fun c476 => ?_)
        · obtain rfl : j1 = i := by omega
          exact kx ls (lv_sub hl [4, 5, 6, 7, 8, 9, 10, 11, 12, 13] rfl)
        · refine lv_aload_n hx hb dL_law_479 rfl (lv_at hl 11 rfl) ?_
          refine va_get (D := gD g) (ci := 4) (v := .ref (la)) (C := RX4) (T := TX4) (N := 2) hx hb hts iX4 hown hK.1 hW.1.1 0 rfl rfl 0 (by decide) f9 (fun _ h9 => h9) rfl dL_law_480 ?_
          refine lv_iload hx hb dL_law_483 (lv_at hl 6 rfl) ?_
          refine gt_A (k := k) (r := ra k) hx hb hK hW.1.2.1 rfl (by omega) (by omega) dL_law_485 ?_
          refine lv_iload hx hb dL_law_486 (lv_at hl 0 rfl) ?_
          refine lv_aload_n hx hb dL_law_488 rfl (lv_at hl 11 rfl) ?_
          refine va_get (D := gD g) (ci := 4) (v := .ref (la)) (C := RX4) (T := TX4) (N := 2) hx hb hts iX4 hown hK.1 hW.1.1 0 rfl rfl 0 (by decide) f9 (fun _ h9 => h9) rfl dL_law_489 ?_
          refine lv_iload hx hb dL_law_492 (lv_at hl 2 rfl) ?_
          refine gt_A (k := o) (r := ra o) hx hb hK hW.1.2.1 rfl (by omega) (by omega) dL_law_494 ?_
          refine lv_iconst (v := nI 0) hx hb dL_law_495 (by decide +kernel) ?_
          refine lv_aload_n hx hb dL_law_496 rfl (lv_at hl 12 rfl) ?_
          refine lv_iload hx hb dL_law_497 (lv_at hl 2 rfl) ?_
          refine p_V (As := [.int (nI (o))]) (rest := [.int (nI 0), .ref (ra o), .int (nI i), .ref (ra k)]) S (c_X2_signsOf l g AD LL EE LN lc ec hI.1 hI.2.1 hI.hLL hI.hEE o ho) (cwV 1 hts gL_law_X2_signsOf rfl rfl rfl (by decide +kernel) ⟨Nat.le_of_ble_eq_true rfl, Nat.le_of_ble_eq_true rfl⟩) hK (va_recv hK.1 hDk (ci := 2) (q0 := 0) rfl dk_me) hDk rfl hl.1 rfl (Nat.le_of_ble_eq_true rfl) dL_law_499 ⟨by show _ ≤ room_1.cells; omega, by show _ ≤ room_1.slots; omega⟩ ?_
          refine p_S (As := [.ref (ra k), .int (nI i), .ref (ra o), .int (nI 0), .int (nI ((LL o).2.2))]) (rest := []) S (c_X4_isAlike l g (ra k) (ra o) (LL k).1 (LL o).1 (LL k).2.2 (LL o).2.2 (by omega) (by omega) i 0 (LL o).2.2 (by omega) (by omega) (by omega)) (va_cwS 5 hts gL_law_X4_isAlike rfl rfl rfl (by decide +kernel) ⟨Nat.le_of_ble_eq_true rfl, Nat.le_of_ble_eq_true rfl⟩) hK ⟨(hW.2.2.1 k hk).1, (hW.2.2.1 o ho).1⟩ rfl hl.1 rfl (Nat.le_of_ble_eq_true rfl) dL_law_502 ⟨by show _ ≤ room_1.cells; omega, by show _ ≤ room_1.slots; omega⟩ ?_
          refine lv_toI (z := bI false) (alk_no (fun h9 => hall i (Nat.zero_le i) (by omega))) ?_
          refine br_eqB (tgt := 510) hx hb dL_law_505 (by decide) (fun c505 => ?_) (fun c505 => ?_)
          · refine lv_iinc (v := nI (i + 1)) (lv' := [(16, .int (nI (i + 1))), (15, .int (nI (j1))), (14, .int (nI (o))), (12, .int (nI (t6))), (11, .int (nI (cnN (LL k).1 30 (LL k).2.2))), (9, .int (nI ((LL k).2.2))), (8, .int (nI (k))), (7, .int (nI (lc))), (5, .long (D0)), (4, .int (x)), (3, .int (nI (t))), (2, .ref (so)), (1, .ref (AD 0)), (0, .ref (b))]) hx hb dL_law_510 hl (k := 0) rfl (nI_1 _) (by decide) rfl (fun ls hl => ?_)
            refine lv_goto (tgt := 462) hx hb dL_law_513 (by decide) ?_
            exact ih1 (i + 1) _ (by omega) (by omega) (lv_sub hl [0, 1, 2, 3, 4, 5, 6, 7, 8, 9, 10, 11, 12, 13] rfl)
          · exact absurd c505 (by decide)
      · exact c466.elim
  exact L462 (j1 + 1) (0) _ (by omega) (by omega) (lv_sub hl [0, 1, 2, 3, 4, 5, 6, 7, 8, 9, 10, 11, 12, 13] rfl)

set_option maxHeartbeats 4000000 in
set_option maxRecDepth 100000 in
/-- a letter in another one -/
theorem law_393 {p : Program} {e : Env} {s : State} {m : MethodId} {below : List Frame} {meth : Method} {c : Code} {Q : State → Prop} (l : Launch) (hlt : l.stackTraces = false) (g : gT) {b L : Nat} {xs : Nat → Int32} {B so : Nat} {AD : Nat → Nat} (hx : p.tables.exec = Jvm.exec) (hb : c.code = cL_law) (hml : c.maxLocals = 18) (hts : ∀ w ∈ wsL_law, w.before #[Value.ref b] s = true) (hown : s.vm.findClass RL = some m.cls) (hK : KK g s) (hZ0 : ZB s.heap.size s s.heap) (hX0 : va_X b L xs s s.heap) (hL : L < 1000) (hJD : JD s.heap.size B AD)
    {LL : Nat → ltT} {EE : Nat → evT} {LN : Nat → Nat} {TT : Nat → (Nat → Int32) × Nat} {lc ec la ea : Nat} {ra xa ta : Nat → Nat} {H : Heap} {locs : List Loc} {C Z : Nat} (hC : C ≤ 100000) (hZ : Z ≤ 1000000) (hI : Iv LL EE LN TT lc ec) (hDk : va_P (gD g) vwCl (wsD g AD LL EE lc ec) H) (hW : SW g B so la ea ra xa ta LL EE TT lc ec H) (hS : va_S (bA s.heap.size) s.heap H locs)
    {t : Nat} {x : Int32} {D0 : Int64} {k t6 : Nat} (hk : k < lc)
    (kx : ∀ (ls : Array Slot), lv_has ls 18 [(11, .int (nI (cnN (LL k).1 30 (LL k).2.2))), (9, .int (nI ((LL k).2.2))), (8, .int (nI (k))), (7, .int (nI (lc))), (5, .long (D0)), (4, .int (x)), (3, .int (nI (t))), (2, .ref (so)), (1, .ref (AD 0)), (0, .ref (b))] → W p l e room_1 s m #[Value.ref b] below meth c H locs C Z Q (F0 m 516 ls [])) (ls : Array Slot) (hl : lv_has ls 18 [(12, .int (nI (t6))), (11, .int (nI (cnN (LL k).1 30 (LL k).2.2))), (9, .int (nI ((LL k).2.2))), (8, .int (nI (k))), (7, .int (nI (lc))), (5, .long (D0)), (4, .int (x)), (3, .int (nI (t))), (2, .ref (so)), (1, .ref (AD 0)), (0, .ref (b))]) : W p l e room_1 s m #[Value.ref b] below meth c H locs C Z Q (F0 m 393 ls []) := by
  have S : CallFix p m c cL_law 18 s #[Value.ref b] wsL_law RL := ⟨hx, hb, hml, hown, hts⟩
  have rC : 200000 ≤ room_1.cells := Nat.le_of_ble_eq_true rfl
  have rS : 2000000 ≤ room_1.slots := Nat.le_of_ble_eq_true rfl
  have hlc12 := hI.1
  have hec24 := hI.2.1
  have hBso : B ≤ so := hW.2.1.1
  have hB0B : s.heap.size ≤ B := hJD.2.2
  have hle := hI.le hk
  have iX4 : ∀ w ∈ u_ws RX4 TX4 2, w ∈ wsL_law := by decide +kernel
  have f9 := hts (.fieldLink RL 9 "LetterSealsLaw$Sim" "letters" "[[I") (by decide +kernel)
  refine lv_iload hx hb dL_law_393 (lv_at hl 6 rfl) ?_
  refine lv_iconst (v := 4) hx hb dL_law_395 (by decide +kernel) ?_
  refine lv_ishr hx hb dL_law_396 ?_
  refine lv_iload hx hb dL_law_397 (lv_at hl 4 rfl) ?_
  refine p_S (As := [.int ((x) >>> ((4) &&& 31)), .int (nI (lc))]) (rest := []) S (c_L_below l g ((x) >>> ((4) &&& 31)) lc (by omega) (by omega)) (va_cwS 2 hts gL_law_L_below rfl rfl rfl (by decide +kernel) ⟨Nat.le_of_ble_eq_true rfl, Nat.le_of_ble_eq_true rfl⟩) hK (trivial) rfl hl.1 rfl (Nat.le_of_ble_eq_true rfl) dL_law_399 ⟨by show _ ≤ room_1.cells; omega, by show _ ≤ room_1.slots; omega⟩ ?_
  obtain ⟨o, ho, eo⟩ := blw_lt ((x) >>> ((4) &&& 31)) (k := lc) (by omega) (by omega)
  refine lv_toI (z := nI (o)) (eo) ?_
  have hleo := hI.le ho
  refine lv_istore (lv' := [(14, .int (nI (o))), (12, .int (nI (t6))), (11, .int (nI (cnN (LL k).1 30 (LL k).2.2))), (9, .int (nI ((LL k).2.2))), (8, .int (nI (k))), (7, .int (nI (lc))), (5, .long (D0)), (4, .int (x)), (3, .int (nI (t))), (2, .ref (so)), (1, .ref (AD 0)), (0, .ref (b))]) hx hb dL_law_402 hl (by decide) rfl (fun ls hl => ?_)
  refine lv_aload_n hx hb dL_law_404 rfl (lv_at hl 10 rfl) ?_
  refine lv_iload hx hb dL_law_405 (lv_at hl 0 rfl) ?_
  refine p_V (As := [.int (nI (o))]) (rest := []) S (c_X2_signsOf l g AD LL EE LN lc ec hI.1 hI.2.1 hI.hLL hI.hEE o ho) (cwV 1 hts gL_law_X2_signsOf rfl rfl rfl (by decide +kernel) ⟨Nat.le_of_ble_eq_true rfl, Nat.le_of_ble_eq_true rfl⟩) hK (va_recv hK.1 hDk (ci := 2) (q0 := 0) rfl dk_me) hDk rfl hl.1 rfl (Nat.le_of_ble_eq_true rfl) dL_law_407 ⟨by show _ ≤ room_1.cells; omega, by show _ ≤ room_1.slots; omega⟩ ?_
  refine br_le0 (a := (LL o).2.2) (tgt := 516) hx hb (by omega) dL_law_410 (by decide) (fun c410 => ?_) (fun c410 => ?_)
  · exact kx ls (lv_sub hl [2, 3, 4, 5, 6, 7, 8, 9, 10, 11] rfl)
  · refine lv_aload_n hx hb dL_law_413 rfl (lv_at hl 10 rfl) ?_
    refine lv_iload hx hb dL_law_414 (lv_at hl 4 rfl) ?_
    refine lv_iload hx hb dL_law_416 (lv_at hl 0 rfl) ?_
    refine p_V (As := [.int (nI (k)), .int (nI (o))]) (rest := []) S (c_X2_firstOf l g AD LL EE LN lc ec hI.1 hI.2.1 hI.hLL hI.hEE k hk o ho (by omega)) (cwV 2 hts gL_law_X2_firstOf rfl rfl rfl (by decide +kernel) ⟨Nat.le_of_ble_eq_true rfl, Nat.le_of_ble_eq_true rfl⟩) hK (va_recv hK.1 hDk (ci := 2) (q0 := 0) rfl dk_me) hDk rfl hl.1 rfl (Nat.le_of_ble_eq_true rfl) dL_law_418 ⟨by show _ ≤ room_1.cells; omega, by show _ ≤ room_1.slots; omega⟩ ?_
    rcases fsF_sp (P := fun j => eqR (LL k).1 j (LL o).1 0 (LL o).2.2) ((LL k).2.2 + 1 - (LL o).2.2) 0 with ⟨e15, hall⟩ | ⟨j1, hj0, hj1, e15, hyes, hall⟩
    · refine lv_toI (z := (-1)) (e15) ?_
      refine lv_istore (lv' := [(15, .int ((-1))), (14, .int (nI (o))), (12, .int (nI (t6))), (11, .int (nI (cnN (LL k).1 30 (LL k).2.2))), (9, .int (nI ((LL k).2.2))), (8, .int (nI (k))), (7, .int (nI (lc))), (5, .long (D0)), (4, .int (x)), (3, .int (nI (t))), (2, .ref (so)), (1, .ref (AD 0)), (0, .ref (b))]) hx hb dL_law_421 hl (by decide) rfl (fun ls hl => ?_)
      refine lv_iload hx hb dL_law_423 (lv_at hl 0 rfl) ?_
      refine lv_if_lt (tgt := 459) hx hb dL_law_425 (by decide) (fun c425 => ?_) (fun c425 => ?_)
      · exact law_459a l hlt g hx hb hml hts hown hK hZ0 hX0 hL hJD hC hZ hI hDk hW hS hk ho (by omega) hall kx ls (lv_sub hl [0, 1, 2, 3, 4, 5, 6, 7, 8, 9, 10, 11, 12] rfl)
      · exact absurd (by decide +kernel) c425
    · refine lv_toI (z := nI (j1)) (e15) ?_
      refine lv_istore (lv' := [(15, .int (nI (j1))), (14, .int (nI (o))), (12, .int (nI (t6))), (11, .int (nI (cnN (LL k).1 30 (LL k).2.2))), (9, .int (nI ((LL k).2.2))), (8, .int (nI (k))), (7, .int (nI (lc))), (5, .long (D0)), (4, .int (x)), (3, .int (nI (t))), (2, .ref (so)), (1, .ref (AD 0)), (0, .ref (b))]) hx hb dL_law_421 hl (by decide) rfl (fun ls hl => ?_)
      refine lv_iload hx hb dL_law_423 (lv_at hl 0 rfl) ?_
      refine br_lt0 (a := j1) (tgt := 459) hx hb (by omega) dL_law_425 (by decide) (fun c425 => ?_) (fun c425 => ?_)
      · exact c425.elim
      · refine lv_aload_n hx hb dL_law_428 rfl (lv_at hl 10 rfl) ?_
        refine va_get (D := gD g) (ci := 4) (v := .ref (la)) (C := RX4) (T := TX4) (N := 2) hx hb hts iX4 hown hK.1 hW.1.1 0 rfl rfl 0 (by decide) f9 (fun _ h9 => h9) rfl dL_law_429 ?_
        refine lv_iload hx hb dL_law_432 (lv_at hl 5 rfl) ?_
        refine gt_A (k := k) (r := ra k) hx hb hK hW.1.2.1 rfl (by omega) (by omega) dL_law_434 ?_
        refine lv_iload hx hb dL_law_435 (lv_at hl 0 rfl) ?_
        refine lv_aload_n hx hb dL_law_437 rfl (lv_at hl 10 rfl) ?_
        refine va_get (D := gD g) (ci := 4) (v := .ref (la)) (C := RX4) (T := TX4) (N := 2) hx hb hts iX4 hown hK.1 hW.1.1 0 rfl rfl 0 (by decide) f9 (fun _ h9 => h9) rfl dL_law_438 ?_
        refine lv_iload hx hb dL_law_441 (lv_at hl 1 rfl) ?_
        refine gt_A (k := o) (r := ra o) hx hb hK hW.1.2.1 rfl (by omega) (by omega) dL_law_443 ?_
        refine lv_iconst (v := nI 0) hx hb dL_law_444 (by decide +kernel) ?_
        refine lv_aload_n hx hb dL_law_445 rfl (lv_at hl 11 rfl) ?_
        refine lv_iload hx hb dL_law_446 (lv_at hl 1 rfl) ?_
        refine p_V (As := [.int (nI (o))]) (rest := [.int (nI 0), .ref (ra o), .int (nI (j1)), .ref (ra k)]) S (c_X2_signsOf l g AD LL EE LN lc ec hI.1 hI.2.1 hI.hLL hI.hEE o ho) (cwV 1 hts gL_law_X2_signsOf rfl rfl rfl (by decide +kernel) ⟨Nat.le_of_ble_eq_true rfl, Nat.le_of_ble_eq_true rfl⟩) hK (va_recv hK.1 hDk (ci := 2) (q0 := 0) rfl dk_me) hDk rfl hl.1 rfl (Nat.le_of_ble_eq_true rfl) dL_law_448 ⟨by show _ ≤ room_1.cells; omega, by show _ ≤ room_1.slots; omega⟩ ?_
        refine p_S (As := [.ref (ra k), .int (nI (j1)), .ref (ra o), .int (nI 0), .int (nI ((LL o).2.2))]) (rest := []) S (c_X4_isAlike l g (ra k) (ra o) (LL k).1 (LL o).1 (LL k).2.2 (LL o).2.2 (by omega) (by omega) j1 0 (LL o).2.2 (by omega) (by omega) (by omega)) (va_cwS 5 hts gL_law_X4_isAlike rfl rfl rfl (by decide +kernel) ⟨Nat.le_of_ble_eq_true rfl, Nat.le_of_ble_eq_true rfl⟩) hK ⟨(hW.2.2.1 k hk).1, (hW.2.2.1 o ho).1⟩ rfl hl.1 rfl (Nat.le_of_ble_eq_true rfl) dL_law_451 ⟨by show _ ≤ room_1.cells; omega, by show _ ≤ room_1.slots; omega⟩ ?_
        refine lv_toI (z := bI true) (alk_yes (by omega) (by omega) hyes) ?_
        refine br_neB (tgt := 459) hx hb dL_law_454 (by decide) (fun c454 => ?_) (fun c454 => ?_)
        · exact law_459b l hlt g hx hb hml hts hown hK hZ0 hX0 hL hJD hC hZ hI hDk hW hS hk ho (by omega) (by omega) hall kx ls (lv_sub hl [0, 1, 2, 3, 4, 5, 6, 7, 8, 9, 10, 11, 12] rfl)
        · exact absurd c454 (by decide)

set_option maxHeartbeats 4000000 in
set_option maxRecDepth 100000 in
/-- no tear is worse -/
theorem law_579 {p : Program} {e : Env} {s : State} {m : MethodId} {below : List Frame} {meth : Method} {c : Code} {Q : State → Prop} (l : Launch) (hlt : l.stackTraces = false) (g : gT) {b L : Nat} {xs : Nat → Int32} {B so : Nat} {AD : Nat → Nat} (hx : p.tables.exec = Jvm.exec) (hb : c.code = cL_law) (hml : c.maxLocals = 18) (hts : ∀ w ∈ wsL_law, w.before #[Value.ref b] s = true) (hown : s.vm.findClass RL = some m.cls) (hK : KK g s) (hZ0 : ZB s.heap.size s s.heap) (hX0 : va_X b L xs s s.heap) (hL : L < 1000) (hJD : JD s.heap.size B AD)
    {LL : Nat → ltT} {EE : Nat → evT} {LN : Nat → Nat} {TT : Nat → (Nat → Int32) × Nat} {lc ec la ea : Nat} {ra xa ta : Nat → Nat} {C Z : Nat} (hC : C ≤ 100000) (hZ : Z ≤ 1000000) (hI : Iv LL EE LN TT lc ec) (hBso : B ≤ so)
    {t : Nat} {x : Int32} {D0 : Int64} {k p1 : Nat} (hk : k < lc) (hp1 : p1 < (LL k).2.2) (h6 : ∀ x, x < (LL k).2.2 → ¬ tvV (LL k).1 (LL k).2.2 p1 < tvV (LL k).1 (LL k).2.2 x) (h7 : ∀ x, x < p1 → ¬ tvV (LL k).1 (LL k).2.2 x = tvV (LL k).1 (LL k).2.2 p1)
    (kx : ∀ (H : Heap) (locs : List Loc) (ls : Array Slot), va_P (gD g) vwCl (wsD g AD LL EE lc ec) H → SW g B so la ea ra xa ta LL EE TT lc ec H → va_S (bA s.heap.size) s.heap H locs → lv_has ls 18 [(8, .int (nI (k))), (7, .int (nI (lc))), (5, .long (D0)), (4, .int (x)), (3, .int (nI (t))), (2, .ref (so)), (1, .ref (AD 0)), (0, .ref (b))] → W p l e room_1 s m #[Value.ref b] below meth c H locs (C + 120) (Z + 4800) Q (F0 m 645 ls [])) : ∀ (k1 i : Nat) (H : Heap) (locs : List Loc) (ls : Array Slot), (LL k).2.2 - i < k1 → i ≤ (LL k).2.2 → va_P (gD g) vwCl (wsD g AD LL EE lc ec) H → SW g B so la ea ra xa ta LL EE TT lc ec H → va_S (bA s.heap.size) s.heap H locs → lv_has ls 18 [(16, .int (nI (i))), (15, .int (nI (p1))), (9, .int (nI ((LL k).2.2))), (8, .int (nI (k))), (7, .int (nI (lc))), (5, .long (D0)), (4, .int (x)), (3, .int (nI (t))), (2, .ref (so)), (1, .ref (AD 0)), (0, .ref (b))] → W p l e room_1 s m #[Value.ref b] below meth c H locs (C + 3 * i) (Z + 120 * i) Q (F0 m 579 ls []) := by
  have S : CallFix p m c cL_law 18 s #[Value.ref b] wsL_law RL := ⟨hx, hb, hml, hown, hts⟩
  have rC : 200000 ≤ room_1.cells := Nat.le_of_ble_eq_true rfl
  have rS : 2000000 ≤ room_1.slots := Nat.le_of_ble_eq_true rfl
  have hlc12 := hI.1
  have hec24 := hI.2.1
  have hB0B : s.heap.size ≤ B := hJD.2.2
  have hle := hI.le hk

  intro k1
  induction k1 with
  | zero => intro i H locs ls hFu; exact absurd hFu (Nat.not_lt_zero _)
  | succ k1 ih =>
    intro i H locs ls hFu hLe hDk hW hS hl
    refine lv_iload hx hb dL_law_579 (lv_at hl 1 rfl) ?_
    refine br_lt0 (a := p1) (tgt := 645) hx hb (by omega) dL_law_581 (by decide) (fun c581 => ?_) (fun c581 => ?_)
    · exact c581.elim
    · refine lv_iload hx hb dL_law_584 (lv_at hl 0 rfl) ?_
      refine lv_iload hx hb dL_law_586 (lv_at hl 2 rfl) ?_
      refine br_ge (a := i) (b := (LL k).2.2) (tgt := 645) hx hb (by omega) (by omega) dL_law_588 (by decide) (fun c588 => ?_) (fun c588 => ?_)
      · exact W.widen (by omega) (by omega) (kx H _ ls hDk hW hS (lv_sub hl [3, 4, 5, 6, 7, 8, 9, 10] rfl))
      · refine lv_aload_n hx hb dL_law_591 rfl (lv_at hl 9 rfl) ?_
        refine lv_aload_n hx hb dL_law_592 rfl (lv_at hl 8 rfl) ?_
        refine lv_iload hx hb dL_law_593 (lv_at hl 3 rfl) ?_
        refine lv_iload hx hb dL_law_595 (lv_at hl 0 rfl) ?_
        refine n_S (As := [.ref (AD 0), .ref (so), .int (nI (k)), .int (nI (i))]) (rest := []) S (c_L_torn l g H.size B so la ea ra xa ta AD LL EE LN TT lc ec hI k i hk (by omega)) (va_cwS 4 hts gL_law_L_torn rfl rfl rfl (by decide +kernel) ⟨Nat.le_of_ble_eq_true rfl, Nat.le_of_ble_eq_true rfl⟩) hK ⟨hDk, hW⟩ hS (fun q z => z.elim) (fun q z => z) rfl hl.1 rfl (Nat.le_of_ble_eq_true rfl) dL_law_597 ⟨by show _ ≤ room_1.cells; omega, by show _ ≤ room_1.slots; omega⟩ (fun v H locs hpost hC9 hS => ?_)
        subst hpost
        have hDk := dk_kept hDk hC9 (fun _ _ z => z)
        have hW := hW.keepN hC9
        refine lv_istore (lv' := [(17, .int (tvV (LL k).1 (LL k).2.2 i)), (16, .int (nI (i))), (15, .int (nI (p1))), (9, .int (nI ((LL k).2.2))), (8, .int (nI (k))), (7, .int (nI (lc))), (5, .long (D0)), (4, .int (x)), (3, .int (nI (t))), (2, .ref (so)), (1, .ref (AD 0)), (0, .ref (b))]) hx hb dL_law_600 hl (by decide) rfl (fun ls hl => ?_)
        refine lv_iload hx hb dL_law_602 (lv_at hl 0 rfl) ?_
        refine lv_aload_n hx hb dL_law_604 rfl (lv_at hl 10 rfl) ?_
        refine lv_aload_n hx hb dL_law_605 rfl (lv_at hl 9 rfl) ?_
        refine lv_iload hx hb dL_law_606 (lv_at hl 4 rfl) ?_
        refine lv_iload hx hb dL_law_608 (lv_at hl 2 rfl) ?_
        refine n_S (As := [.ref (AD 0), .ref (so), .int (nI (k)), .int (nI (p1))]) (rest := [.int (tvV (LL k).1 (LL k).2.2 i)]) S (c_L_torn l g H.size B so la ea ra xa ta AD LL EE LN TT lc ec hI k p1 hk hp1) (va_cwS 4 hts gL_law_L_torn rfl rfl rfl (by decide +kernel) ⟨Nat.le_of_ble_eq_true rfl, Nat.le_of_ble_eq_true rfl⟩) hK ⟨hDk, hW⟩ hS (fun q z => z.elim) (fun q z => z) rfl hl.1 rfl (Nat.le_of_ble_eq_true rfl) dL_law_610 ⟨by show _ ≤ room_1.cells; omega, by show _ ≤ room_1.slots; omega⟩ (fun v H locs hpost hC9 hS => ?_)
        subst hpost
        have hDk := dk_kept hDk hC9 (fun _ _ z => z)
        have hW := hW.keepN hC9
        refine lv_icmp_gt (tgt := 637) hx hb dL_law_613 (by decide) (fun c613 => ?_) (fun c613 => ?_)
        · exact absurd c613 (h6 i (by omega))
        · refine lv_iload hx hb dL_law_616 (lv_at hl 1 rfl) ?_
          refine lv_iload hx hb dL_law_618 (lv_at hl 2 rfl) ?_
          refine br_ge (a := i) (b := p1) (tgt := 639) hx hb (by omega) (by omega) dL_law_620 (by decide) (fun c620 => ?_) (fun c620 => ?_)
          · refine lv_iinc (v := nI (i + 1)) (lv' := [(16, .int (nI (i + 1))), (17, .int (tvV (LL k).1 (LL k).2.2 i)), (15, .int (nI (p1))), (9, .int (nI ((LL k).2.2))), (8, .int (nI (k))), (7, .int (nI (lc))), (5, .long (D0)), (4, .int (x)), (3, .int (nI (t))), (2, .ref (so)), (1, .ref (AD 0)), (0, .ref (b))]) hx hb dL_law_639 hl (k := 1) rfl (nI_1 _) (by decide) rfl (fun ls hl => ?_)
            refine lv_goto (tgt := 579) hx hb dL_law_642 (by decide) ?_
            exact W.widen (by omega) (by omega) (ih (i + 1) H _ _ (by omega) (by omega) hDk hW hS (lv_sub hl [0, 2, 3, 4, 5, 6, 7, 8, 9, 10, 11] rfl))
          · refine lv_iload hx hb dL_law_623 (lv_at hl 0 rfl) ?_
            refine lv_aload_n hx hb dL_law_625 rfl (lv_at hl 10 rfl) ?_
            refine lv_aload_n hx hb dL_law_626 rfl (lv_at hl 9 rfl) ?_
            refine lv_iload hx hb dL_law_627 (lv_at hl 4 rfl) ?_
            refine lv_iload hx hb dL_law_629 (lv_at hl 2 rfl) ?_
            refine n_S (As := [.ref (AD 0), .ref (so), .int (nI (k)), .int (nI (p1))]) (rest := [.int (tvV (LL k).1 (LL k).2.2 i)]) S (c_L_torn l g H.size B so la ea ra xa ta AD LL EE LN TT lc ec hI k p1 hk hp1) (va_cwS 4 hts gL_law_L_torn rfl rfl rfl (by decide +kernel) ⟨Nat.le_of_ble_eq_true rfl, Nat.le_of_ble_eq_true rfl⟩) hK ⟨hDk, hW⟩ hS (fun q z => z.elim) (fun q z => z) rfl hl.1 rfl (Nat.le_of_ble_eq_true rfl) dL_law_631 ⟨by show _ ≤ room_1.cells; omega, by show _ ≤ room_1.slots; omega⟩ (fun v H locs hpost hC9 hS => ?_)
            subst hpost
            have hDk := dk_kept hDk hC9 (fun _ _ z => z)
            have hW := hW.keepN hC9
            refine lv_icmp_ne (tgt := 639) hx hb dL_law_634 (by decide) (fun c634 => ?_) (fun c634 => ?_)
            · refine lv_iinc (v := nI (i + 1)) (lv' := [(16, .int (nI (i + 1))), (17, .int (tvV (LL k).1 (LL k).2.2 i)), (15, .int (nI (p1))), (9, .int (nI ((LL k).2.2))), (8, .int (nI (k))), (7, .int (nI (lc))), (5, .long (D0)), (4, .int (x)), (3, .int (nI (t))), (2, .ref (so)), (1, .ref (AD 0)), (0, .ref (b))]) hx hb dL_law_639 hl (k := 1) rfl (nI_1 _) (by decide) rfl (fun ls hl => ?_)
              refine lv_goto (tgt := 579) hx hb dL_law_642 (by decide) ?_
              exact W.widen (by omega) (by omega) (ih (i + 1) H _ _ (by omega) (by omega) hDk hW hS (lv_sub hl [0, 2, 3, 4, 5, 6, 7, 8, 9, 10, 11] rfl))
            · exact absurd c634 (h7 i (by omega))

set_option maxHeartbeats 4000000 in
set_option maxRecDepth 100000 in
/-- the worst tear -/
theorem law_516 {p : Program} {e : Env} {s : State} {m : MethodId} {below : List Frame} {meth : Method} {c : Code} {Q : State → Prop} (l : Launch) (hlt : l.stackTraces = false) (g : gT) {b L : Nat} {xs : Nat → Int32} {B so : Nat} {AD : Nat → Nat} (hx : p.tables.exec = Jvm.exec) (hb : c.code = cL_law) (hml : c.maxLocals = 18) (hts : ∀ w ∈ wsL_law, w.before #[Value.ref b] s = true) (hown : s.vm.findClass RL = some m.cls) (hK : KK g s) (hZ0 : ZB s.heap.size s s.heap) (hX0 : va_X b L xs s s.heap) (hL : L < 1000) (hJD : JD s.heap.size B AD)
    {LL : Nat → ltT} {EE : Nat → evT} {LN : Nat → Nat} {TT : Nat → (Nat → Int32) × Nat} {lc ec la ea : Nat} {ra xa ta : Nat → Nat} {H : Heap} {locs : List Loc} {C Z : Nat} (hC : C ≤ 100000) (hZ : Z ≤ 1000000) (hI : Iv LL EE LN TT lc ec) (hDk : va_P (gD g) vwCl (wsD g AD LL EE lc ec) H) (hW : SW g B so la ea ra xa ta LL EE TT lc ec H) (hS : va_S (bA s.heap.size) s.heap H locs)
    {t : Nat} {x : Int32} {D0 : Int64} {k : Nat} (hk : k < lc)
    (kx : ∀ (H : Heap) (locs : List Loc) (ls : Array Slot), va_P (gD g) vwCl (wsD g AD LL EE lc ec) H → SW g B so la ea ra xa ta LL EE TT lc ec H → va_S (bA s.heap.size) s.heap H locs → lv_has ls 18 [(8, .int (nI (k))), (7, .int (nI (lc))), (5, .long (D0)), (4, .int (x)), (3, .int (nI (t))), (2, .ref (so)), (1, .ref (AD 0)), (0, .ref (b))] → W p l e room_1 s m #[Value.ref b] below meth c H locs (C + 120) (Z + 4800) Q (F0 m 645 ls [])) (ls : Array Slot) (hl : lv_has ls 18 [(11, .int (nI (cnN (LL k).1 30 (LL k).2.2))), (9, .int (nI ((LL k).2.2))), (8, .int (nI (k))), (7, .int (nI (lc))), (5, .long (D0)), (4, .int (x)), (3, .int (nI (t))), (2, .ref (so)), (1, .ref (AD 0)), (0, .ref (b))]) : W p l e room_1 s m #[Value.ref b] below meth c H locs C Z Q (F0 m 516 ls []) := by
  have S : CallFix p m c cL_law 18 s #[Value.ref b] wsL_law RL := ⟨hx, hb, hml, hown, hts⟩
  have rC : 200000 ≤ room_1.cells := Nat.le_of_ble_eq_true rfl
  have rS : 2000000 ≤ room_1.slots := Nat.le_of_ble_eq_true rfl
  have hlc12 := hI.1
  have hec24 := hI.2.1
  have hBso : B ≤ so := hW.2.1.1
  have hB0B : s.heap.size ≤ B := hJD.2.2
  have hle := hI.le hk
  have h30 := cn_le (LL k).1 30 (LL k).2.2
  refine lv_aload_n hx hb dL_law_516 rfl (lv_at hl 8 rfl) ?_
  refine lv_iload hx hb dL_law_517 (lv_at hl 2 rfl) ?_
  refine p_V (As := [.int (nI (k))]) (rest := []) S (c_X2_worstTear l g AD LL EE LN lc ec hI.1 hI.2.1 hI.hLL hI.hEE k hk) (cwV 1 hts gL_law_X2_worstTear rfl rfl rfl (by decide +kernel) ⟨Nat.le_of_ble_eq_true rfl, Nat.le_of_ble_eq_true rfl⟩) hK (va_recv hK.1 hDk (ci := 2) (q0 := 0) rfl dk_me) hDk rfl hl.1 rfl (Nat.le_of_ble_eq_true rfl) dL_law_519 ⟨by show _ ≤ room_1.cells; omega, by show _ ≤ room_1.slots; omega⟩ ?_
  rcases wk_fin hle (hI.sg hk) with ⟨e15, hall⟩ | ⟨p1, hp1, hp3, e15, h6, h7⟩
  · refine lv_toI (z := (-1)) (e15) ?_
    refine lv_istore (lv' := [(15, .int ((-1))), (11, .int (nI (cnN (LL k).1 30 (LL k).2.2))), (9, .int (nI ((LL k).2.2))), (8, .int (nI (k))), (7, .int (nI (lc))), (5, .long (D0)), (4, .int (x)), (3, .int (nI (t))), (2, .ref (so)), (1, .ref (AD 0)), (0, .ref (b))]) hx hb dL_law_522 hl (by decide) rfl (fun ls hl => ?_)
    refine lv_iload hx hb dL_law_524 (lv_at hl 0 rfl) ?_
    refine lv_if_ge (tgt := 533) hx hb dL_law_526 (by decide) (fun c526 => ?_) (fun c526 => ?_)
    · exact absurd c526 (by decide +kernel)
    · refine lv_iconst (v := 1) hx hb dL_law_529 (by decide +kernel) ?_
      refine lv_goto (tgt := 534) hx hb dL_law_530 (by decide) ?_
      refine lv_iload hx hb dL_law_534 (lv_at hl 1 rfl) ?_
      refine lv_iload hx hb dL_law_536 (lv_at hl 2 rfl) ?_
      refine br_ne (a := cnN (LL k).1 30 (LL k).2.2) (b := (LL k).2.2) (tgt := 545) hx hb (by omega) (by omega) dL_law_538 (by decide) (fun c538 => ?_) (fun c538 => ?_)
      · exact absurd ((cn_all (LL k).1 30 (LL k).2.2).mpr hall) c538
      · refine lv_iconst (v := 1) hx hb dL_law_541 (by decide +kernel) ?_
        refine lv_goto (tgt := 546) hx hb dL_law_542 (by decide) ?_
        refine lv_icmp_ne (tgt := 574) hx hb dL_law_546 (by decide) (fun c546 => ?_) (fun c546 => ?_)
        · exact absurd rfl c546
        · refine lv_iload hx hb dL_law_549 (lv_at hl 0 rfl) ?_
          refine lv_iload hx hb dL_law_551 (lv_at hl 2 rfl) ?_
          refine lv_icmp_ge (tgt := 574) hx hb dL_law_553 (by decide) (fun c553 => ?_) (fun c553 => ?_)
          · exact absurd c553 (law_nle _ (by omega))
          · refine lv_iload hx hb dL_law_556 (lv_at hl 0 rfl) ?_
            refine lv_if_lt (tgt := 576) hx hb dL_law_558 (by decide) (fun c558 => ?_) (fun c558 => ?_)
            · refine lv_iconst (v := nI (0)) hx hb dL_law_576 (by decide +kernel) ?_
              refine lv_istore (lv' := [(16, .int (nI (0))), (15, .int ((-1))), (11, .int (nI (cnN (LL k).1 30 (LL k).2.2))), (9, .int (nI ((LL k).2.2))), (8, .int (nI (k))), (7, .int (nI (lc))), (5, .long (D0)), (4, .int (x)), (3, .int (nI (t))), (2, .ref (so)), (1, .ref (AD 0)), (0, .ref (b))]) hx hb dL_law_577 hl (by decide) rfl (fun ls hl => ?_)
              refine lv_iload hx hb dL_law_579 (lv_at hl 1 rfl) ?_
              refine lv_if_lt (tgt := 645) hx hb dL_law_581 (by decide) (fun c581 => ?_) (fun c581 => ?_)
              · exact W.widen (by omega) (by omega) (kx H _ ls hDk hW hS (lv_sub hl [4, 5, 6, 7, 8, 9, 10, 11] rfl))
              · exact absurd (by decide +kernel) c581
            · exact absurd (by decide +kernel) c558
  · refine lv_toI (z := nI (p1)) (e15) ?_
    refine lv_istore (lv' := [(15, .int (nI (p1))), (11, .int (nI (cnN (LL k).1 30 (LL k).2.2))), (9, .int (nI ((LL k).2.2))), (8, .int (nI (k))), (7, .int (nI (lc))), (5, .long (D0)), (4, .int (x)), (3, .int (nI (t))), (2, .ref (so)), (1, .ref (AD 0)), (0, .ref (b))]) hx hb dL_law_522 hl (by decide) rfl (fun ls hl => ?_)
    refine lv_iload hx hb dL_law_524 (lv_at hl 0 rfl) ?_
    refine br_ge0 (a := p1) (tgt := 533) hx hb (by omega) dL_law_526 (by decide) (fun c526 => ?_) (fun c526 => ?_)
    · refine lv_iconst (v := 0) hx hb dL_law_533 (by decide +kernel) ?_
      refine lv_iload hx hb dL_law_534 (lv_at hl 1 rfl) ?_
      refine lv_iload hx hb dL_law_536 (lv_at hl 2 rfl) ?_
      refine br_ne (a := cnN (LL k).1 30 (LL k).2.2) (b := (LL k).2.2) (tgt := 545) hx hb (by omega) (by omega) dL_law_538 (by decide) (fun c538 => ?_) (fun c538 => ?_)
      · refine lv_iconst (v := 0) hx hb dL_law_545 (by decide +kernel) ?_
        refine lv_icmp_ne (tgt := 574) hx hb dL_law_546 (by decide) (fun c546 => ?_) (fun c546 => ?_)
        · exact absurd rfl c546
        · refine lv_iload hx hb dL_law_549 (lv_at hl 0 rfl) ?_
          refine lv_iload hx hb dL_law_551 (lv_at hl 2 rfl) ?_
          refine br_ge (a := p1) (b := (LL k).2.2) (tgt := 574) hx hb (by omega) (by omega) dL_law_553 (by decide) (fun c553 => ?_) (fun c553 => ?_)
          · exact (by omega : False).elim
          · refine lv_iload hx hb dL_law_556 (lv_at hl 0 rfl) ?_
            refine br_lt0 (a := p1) (tgt := 576) hx hb (by omega) dL_law_558 (by decide) (fun c558 => ?_) (fun c558 => ?_)
            · exact c558.elim
            · refine lv_aload_n hx hb dL_law_561 rfl (lv_at hl 9 rfl) ?_
              refine lv_iload hx hb dL_law_562 (lv_at hl 3 rfl) ?_
              refine lv_iload hx hb dL_law_564 (lv_at hl 0 rfl) ?_
              refine p_V (As := [.int (nI (k)), .int (nI (p1))]) (rest := []) S (c_X2_signAt l g AD LL EE LN lc ec hI.1 hI.2.1 hI.hLL hI.hEE k hk p1 hp1) (cwV 2 hts gL_law_X2_signAt rfl rfl rfl (by decide +kernel) ⟨Nat.le_of_ble_eq_true rfl, Nat.le_of_ble_eq_true rfl⟩) hK (va_recv hK.1 hDk (ci := 2) (q0 := 0) rfl dk_me) hDk rfl hl.1 rfl (Nat.le_of_ble_eq_true rfl) dL_law_566 ⟨by show _ ≤ room_1.cells; omega, by show _ ≤ room_1.slots; omega⟩ ?_
              refine lv_bipush (v := 30) hx hb dL_law_569 (by decide +kernel) ?_
              refine lv_icmp_ne (tgt := 576) hx hb dL_law_571 (by decide) (fun c571 => ?_) (fun c571 => ?_)
              · refine lv_iconst (v := nI (0)) hx hb dL_law_576 (by decide +kernel) ?_
                refine lv_istore (lv' := [(16, .int (nI (0))), (15, .int (nI (p1))), (11, .int (nI (cnN (LL k).1 30 (LL k).2.2))), (9, .int (nI ((LL k).2.2))), (8, .int (nI (k))), (7, .int (nI (lc))), (5, .long (D0)), (4, .int (x)), (3, .int (nI (t))), (2, .ref (so)), (1, .ref (AD 0)), (0, .ref (b))]) hx hb dL_law_577 hl (by decide) rfl (fun ls hl => ?_)
                exact law_579 l hlt g hx hb hml hts hown hK hZ0 hX0 hL hJD hC hZ hI hBso hk hp1 h6 h7 kx ((LL k).2.2 + 1) 0 H _ _ (by omega) (by omega) hDk hW hS (lv_sub hl [0, 1, 3, 4, 5, 6, 7, 8, 9, 10, 11] rfl)
              · exact absurd c571 hp3
      · exact absurd ((cn_all (LL k).1 30 (LL k).2.2).mp c538 p1 hp1) hp3
    · exact c526.elim
