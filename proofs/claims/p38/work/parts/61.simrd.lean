/-! THE LAW: its methods that only read -/
theorem cntF_go {f : Nat → Int32} {x : Int32} {i : Nat} (b : Bool) (h : b = decide (f i = x)) : cntF f x i + bI b = cntF f x (i + 1) := by
  subst h
  rw [cntF]
  by_cases q : f i = x
  · rw [if_pos q, decide_eq_true q]; rfl
  · rw [if_neg q, decide_eq_false q]; show cntF f x i + 0 = _; exact Int32.add_zero _
theorem dgF_go (f : Nat → Int32) (i : Nat) : (37 * dgF f i + f i + 1) - (37 * dgF f i + f i + 1) / 8191 * 8191 = dgF f (i + 1) := by
  rw [dgF, Int32.mul_comm (dgF f i) 37]
  rfl
/-- added up, with the places or without -/
def adF (f : Nat → Int32) (b : Bool) (n : Nat) : Int32 := if b then wtF f n else smF f n
theorem adF_t (f : Nat → Int32) (i : Nat) : adF f true i + f i * nI (i + 1) = adF f true (i + 1) := rfl
theorem adF_f (f : Nat → Int32) (i : Nat) : adF f false i + f i * 1 = adF f false (i + 1) := by
  show smF f i + f i * 1 = smF f i + f i
  rw [Int32.mul_one]
/-- the seal as the law takes it, by long numbers -/
def slJ (p x : Int32) : Int32 := ((53 * p.toInt64 + x.toInt64) - (53 * p.toInt64 + x.toInt64) / 65521 * 65521).toInt32
theorem alk_1 {a b n n2 t : Nat} {f f2 : Nat → Int32} (h : n < a + t ∨ n2 < b + t) : bI false = bI (decide (a + t ≤ n) && decide (b + t ≤ n2) && eqR f a f2 b t) := by
  rcases h with h | h
  · rw [decide_eq_false (Nat.not_le.mpr h)]; rfl
  · rw [decide_eq_false (Nat.not_le.mpr h)]; simp
theorem alk_2 {a b n n2 t : Nat} {f f2 : Nat → Int32} (h : a + t ≤ n) (h2 : b + t ≤ n2) : eqR f a f2 b t = (decide (a + t ≤ n) && decide (b + t ≤ n2) && eqR f a f2 b t) := by
  rw [decide_eq_true h, decide_eq_true h2]; rfl

set_option maxHeartbeats 4000000 in
set_option maxRecDepth 100000 in
/-- digest(row) -/
theorem c_X4_digest (l : Launch) (g : gT) (r : Nat) (f : Nat → Int32) (n : Nat) (hn : n ≤ 100) : pM g l yX4_digest wsX4_digest { frames := 0, cells := 0, slots := 0, locals := 0 } [.ref (r)] (fun H => va_P (gD g) vwCl (rwW g r f n) H) (.int (dgF f n)) := by
  refine pu_ofI (cc := cX4_digest) (maxL := 6) (by decide) rfl (Nat.le_of_ble_eq_true rfl) ?_
  intro p e s m args below meth c H ls Q hx hb hml hts hown hK hP hl hret
  have hl : lv_has ls 6 [(0, .ref (r))] := hl
  have S : CallFix p m c cX4_digest 6 s args wsX4_digest RX4 := ⟨hx, hb, hml, hown, hts⟩
  refine lv_iconst (v := 5) hx hb dX4_digest_0 (by decide +kernel) ?_
  refine lv_istore_n (lv' := [(1, .int (5)), (0, .ref (r))]) hx hb dX4_digest_1 rfl hl (by decide) rfl (fun ls hl => ?_)
  refine lv_aload_n hx hb dX4_digest_2 rfl (lv_at hl 1 rfl) ?_
  refine lv_astore_n (lv' := [(2, .ref (r)), (1, .int (5)), (0, .ref (r))]) hx hb dX4_digest_3 rfl hl (by decide) rfl (fun ls hl => ?_)
  refine lv_aload_n hx hb dX4_digest_4 rfl (lv_at hl 0 rfl) ?_
  refine va_alen (v := nI (n)) hx hb hK.1 hP 0 0 rfl (ht := (rfl : (gTy g)[0]? = _)) rfl dX4_digest_5 ?_
  refine lv_istore_n (lv' := [(3, .int (nI (n))), (2, .ref (r)), (1, .int (5)), (0, .ref (r))]) hx hb dX4_digest_6 rfl hl (by decide) rfl (fun ls hl => ?_)
  refine lv_iconst (v := nI (0)) hx hb dX4_digest_7 (by decide +kernel) ?_
  refine lv_istore (lv' := [(4, .int (nI (0))), (3, .int (nI (n))), (2, .ref (r)), (1, .int (5)), (0, .ref (r))]) hx hb dX4_digest_8 hl (by decide) rfl (fun ls hl => ?_)
  have L10 : ∀ (k1 i : Nat) (ls : Array Slot), n - i < k1 → i ≤ n → lv_has ls 6 [(4, .int (nI i)), (3, .int (nI (n))), (2, .ref (r)), (1, .int (dgF f i)), (0, .ref (r))] → W p l e { frames := 0, cells := 0, slots := 0, locals := 0 } s m args below meth c H [] 0 0 Q (F0 m 10 ls []) := by
    intro k1
    induction k1 with
    | zero => intro i ls hFu; exact absurd hFu (Nat.not_lt_zero _)
    | succ k1 ih1 =>
      intro i ls hFu hLe hl
      refine lv_iload hx hb dX4_digest_10 (lv_at hl 0 rfl) ?_
      refine lv_iload_n hx hb dX4_digest_12 rfl (lv_at hl 1 rfl) ?_
      refine br_ge (a := i) (b := n) (tgt := 42) hx hb (by omega) (by omega) dX4_digest_13 (by decide) (fun c13 => ?_) (fun c13 => ?_)
      · obtain rfl : n = i := by omega
        refine lv_iload_n hx hb dX4_digest_42 rfl (lv_at hl 3 rfl) ?_
        exact hret _ _ dX4_digest_43
      · refine lv_aload_n hx hb dX4_digest_16 rfl (lv_at hl 2 rfl) ?_
        refine lv_iload hx hb dX4_digest_17 (lv_at hl 0 rfl) ?_
        refine ld_I (k := i) (n := n) (f := f) hx hb hK.1 hP 0 rfl (by omega) (by omega) dX4_digest_19 ?_
        refine lv_istore (lv' := [(5, .int (f (i))), (4, .int (nI i)), (3, .int (nI (n))), (2, .ref (r)), (1, .int (dgF f i)), (0, .ref (r))]) hx hb dX4_digest_20 hl (by decide) rfl (fun ls hl => ?_)
        refine lv_bipush (v := 37) hx hb dX4_digest_22 (by decide +kernel) ?_
        refine lv_iload_n hx hb dX4_digest_24 rfl (lv_at hl 4 rfl) ?_
        refine lv_imul hx hb dX4_digest_25 ?_
        refine lv_iload hx hb dX4_digest_26 (lv_at hl 0 rfl) ?_
        refine lv_iadd hx hb dX4_digest_28 ?_
        refine lv_iconst (v := 1) hx hb dX4_digest_29 (by decide +kernel) ?_
        refine lv_iadd hx hb dX4_digest_30 ?_
        refine lv_sipush (v := 8191) hx hb dX4_digest_31 (by decide +kernel) ?_
        refine lv_irem hx hb dX4_digest_34 (by decide +kernel) ?_
        refine lv_toI (z := dgF f (i + 1)) (dgF_go f i) ?_
        refine lv_istore_n (lv' := [(1, .int (dgF f (i + 1))), (5, .int (f (i))), (4, .int (nI i)), (3, .int (nI (n))), (2, .ref (r)), (0, .ref (r))]) hx hb dX4_digest_35 rfl hl (by decide) rfl (fun ls hl => ?_)
        refine lv_iinc (v := nI (i + 1)) (lv' := [(4, .int (nI (i + 1))), (1, .int (dgF f (i + 1))), (5, .int (f (i))), (3, .int (nI (n))), (2, .ref (r)), (0, .ref (r))]) hx hb dX4_digest_36 hl (k := 2) rfl (nI_1 _) (by decide) rfl (fun ls hl => ?_)
        refine lv_goto (tgt := 10) hx hb dX4_digest_39 (by decide) ?_
        exact ih1 (i + 1) _ (by omega) (by omega) (lv_sub hl [0, 3, 4, 1, 5] rfl)
  exact L10 (n + 1) (0) _ (by omega) (by omega) (lv_sub hl [0, 1, 2, 3, 4] rfl)

set_option maxHeartbeats 4000000 in
set_option maxRecDepth 100000 in
/-- count(row, x) -/
theorem c_X4_count (l : Launch) (g : gT) (r : Nat) (f : Nat → Int32) (n : Nat) (hn : n ≤ 100) (x : Int32) : pM g l yX4_count wsX4_count { frames := 0, cells := 0, slots := 0, locals := 0 } [.ref (r), .int (x)] (fun H => va_P (gD g) vwCl (rwW g r f n) H) (.int (cntF f x n)) := by
  refine pu_ofI (cc := cX4_count) (maxL := 7) (by decide) rfl (Nat.le_of_ble_eq_true rfl) ?_
  intro p e s m args below meth c H ls Q hx hb hml hts hown hK hP hl hret
  have hl : lv_has ls 7 [(0, .ref (r)), (1, .int (x))] := hl
  have S : CallFix p m c cX4_count 7 s args wsX4_count RX4 := ⟨hx, hb, hml, hown, hts⟩
  refine lv_iconst (v := 0) hx hb dX4_count_0 (by decide +kernel) ?_
  refine lv_istore_n (lv' := [(2, .int (0)), (0, .ref (r)), (1, .int (x))]) hx hb dX4_count_1 rfl hl (by decide) rfl (fun ls hl => ?_)
  refine lv_aload_n hx hb dX4_count_2 rfl (lv_at hl 1 rfl) ?_
  refine lv_astore_n (lv' := [(3, .ref (r)), (2, .int (0)), (0, .ref (r)), (1, .int (x))]) hx hb dX4_count_3 rfl hl (by decide) rfl (fun ls hl => ?_)
  refine lv_aload_n hx hb dX4_count_4 rfl (lv_at hl 0 rfl) ?_
  refine va_alen (v := nI (n)) hx hb hK.1 hP 0 0 rfl (ht := (rfl : (gTy g)[0]? = _)) rfl dX4_count_5 ?_
  refine lv_istore (lv' := [(4, .int (nI (n))), (3, .ref (r)), (2, .int (0)), (0, .ref (r)), (1, .int (x))]) hx hb dX4_count_6 hl (by decide) rfl (fun ls hl => ?_)
  refine lv_iconst (v := nI (0)) hx hb dX4_count_8 (by decide +kernel) ?_
  refine lv_istore (lv' := [(5, .int (nI (0))), (4, .int (nI (n))), (3, .ref (r)), (2, .int (0)), (0, .ref (r)), (1, .int (x))]) hx hb dX4_count_9 hl (by decide) rfl (fun ls hl => ?_)
  have L11 : ∀ (k1 i : Nat) (ls : Array Slot), n - i < k1 → i ≤ n → lv_has ls 7 [(5, .int (nI i)), (4, .int (nI (n))), (3, .ref (r)), (2, .int (cntF f x i)), (0, .ref (r)), (1, .int (x))] → W p l e { frames := 0, cells := 0, slots := 0, locals := 0 } s m args below meth c H [] 0 0 Q (F0 m 11 ls []) := by
    intro k1
    induction k1 with
    | zero => intro i ls hFu; exact absurd hFu (Nat.not_lt_zero _)
    | succ k1 ih1 =>
      intro i ls hFu hLe hl
      refine lv_iload hx hb dX4_count_11 (lv_at hl 0 rfl) ?_
      refine lv_iload hx hb dX4_count_13 (lv_at hl 1 rfl) ?_
      refine br_ge (a := i) (b := n) (tgt := 44) hx hb (by omega) (by omega) dX4_count_15 (by decide) (fun c15 => ?_) (fun c15 => ?_)
      · obtain rfl : n = i := by omega
        refine lv_iload_n hx hb dX4_count_44 rfl (lv_at hl 3 rfl) ?_
        exact hret _ _ dX4_count_45
      · refine lv_aload_n hx hb dX4_count_18 rfl (lv_at hl 2 rfl) ?_
        refine lv_iload hx hb dX4_count_19 (lv_at hl 0 rfl) ?_
        refine ld_I (k := i) (n := n) (f := f) hx hb hK.1 hP 0 rfl (by omega) (by omega) dX4_count_21 ?_
        refine lv_istore (lv' := [(6, .int (f (i))), (5, .int (nI i)), (4, .int (nI (n))), (3, .ref (r)), (2, .int (cntF f x i)), (0, .ref (r)), (1, .int (x))]) hx hb dX4_count_22 hl (by decide) rfl (fun ls hl => ?_)
        refine lv_iload_n hx hb dX4_count_24 rfl (lv_at hl 4 rfl) ?_
        refine lv_iload hx hb dX4_count_25 (lv_at hl 0 rfl) ?_
        refine lv_iload_n hx hb dX4_count_27 rfl (lv_at hl 6 rfl) ?_
        refine lv_icmp_ne (tgt := 35) hx hb dX4_count_28 (by decide) (fun c28 => ?_) (fun c28 => ?_)
        · refine lv_iconst (v := bI false) hx hb dX4_count_35 (by decide +kernel) ?_
          refine lv_iadd hx hb dX4_count_36 ?_
          refine lv_toI (z := cntF f x (i + 1)) (cntF_go _ (by first | (rw [decide_eq_true c28]) | (rw [decide_eq_false c28]))) ?_
          refine lv_istore_n (lv' := [(2, .int (cntF f x (i + 1))), (6, .int (f (i))), (5, .int (nI i)), (4, .int (nI (n))), (3, .ref (r)), (0, .ref (r)), (1, .int (x))]) hx hb dX4_count_37 rfl hl (by decide) rfl (fun ls hl => ?_)
          refine lv_iinc (v := nI (i + 1)) (lv' := [(5, .int (nI (i + 1))), (2, .int (cntF f x (i + 1))), (6, .int (f (i))), (4, .int (nI (n))), (3, .ref (r)), (0, .ref (r)), (1, .int (x))]) hx hb dX4_count_38 hl (k := 2) rfl (nI_1 _) (by decide) rfl (fun ls hl => ?_)
          refine lv_goto (tgt := 11) hx hb dX4_count_41 (by decide) ?_
          exact ih1 (i + 1) _ (by omega) (by omega) (lv_sub hl [0, 3, 4, 1, 5, 6] rfl)
        · refine lv_iconst (v := bI true) hx hb dX4_count_31 (by decide +kernel) ?_
          refine lv_goto (tgt := 36) hx hb dX4_count_32 (by decide) ?_
          refine lv_iadd hx hb dX4_count_36 ?_
          refine lv_toI (z := cntF f x (i + 1)) (cntF_go _ (by first | (rw [decide_eq_true c28]) | (rw [decide_eq_false c28]))) ?_
          refine lv_istore_n (lv' := [(2, .int (cntF f x (i + 1))), (6, .int (f (i))), (5, .int (nI i)), (4, .int (nI (n))), (3, .ref (r)), (0, .ref (r)), (1, .int (x))]) hx hb dX4_count_37 rfl hl (by decide) rfl (fun ls hl => ?_)
          refine lv_iinc (v := nI (i + 1)) (lv' := [(5, .int (nI (i + 1))), (2, .int (cntF f x (i + 1))), (6, .int (f (i))), (4, .int (nI (n))), (3, .ref (r)), (0, .ref (r)), (1, .int (x))]) hx hb dX4_count_38 hl (k := 2) rfl (nI_1 _) (by decide) rfl (fun ls hl => ?_)
          refine lv_goto (tgt := 11) hx hb dX4_count_41 (by decide) ?_
          exact ih1 (i + 1) _ (by omega) (by omega) (lv_sub hl [0, 3, 4, 1, 5, 6] rfl)
  exact L11 (n + 1) (0) _ (by omega) (by omega) (lv_sub hl [0, 1, 2, 3, 4, 5] rfl)

set_option maxHeartbeats 4000000 in
set_option maxRecDepth 100000 in
/-- isAlike(row, a, other, b, t) -/
theorem c_X4_isAlike (l : Launch) (g : gT) (r r2 : Nat) (f f2 : Nat → Int32) (n n2 : Nat) (hn : n ≤ 100) (hn2 : n2 ≤ 100) (a b t : Nat) (ha : a ≤ 100) (hb2 : b ≤ 100) (ht : t ≤ 100) : pM g l yX4_isAlike wsX4_isAlike { frames := 0, cells := 0, slots := 0, locals := 0 } [.ref (r), .int (nI a), .ref (r2), .int (nI b), .int (nI t)] (fun H => va_P (gD g) vwCl (rwW g r f n) H ∧ va_P (gD g) vwCl (rwW g r2 f2 n2) H) (.int (bI (decide (a + t ≤ n) && decide (b + t ≤ n2) && eqR f a f2 b t))) := by
  refine pu_ofZ (cc := cX4_isAlike) (maxL := 6) (bI_n _) (by decide) rfl (Nat.le_of_ble_eq_true rfl) ?_
  intro p e s m args below meth c H ls Q hx hb hml hts hown hK hP hl hret
  have hl : lv_has ls 6 [(0, .ref (r)), (1, .int (nI a)), (2, .ref (r2)), (3, .int (nI b)), (4, .int (nI t))] := hl
  have S : CallFix p m c cX4_isAlike 6 s args wsX4_isAlike RX4 := ⟨hx, hb, hml, hown, hts⟩
  refine lv_iload_n hx hb dX4_isAlike_0 rfl (lv_at hl 1 rfl) ?_
  refine lv_iload hx hb dX4_isAlike_1 (lv_at hl 4 rfl) ?_
  refine lv_iadd hx hb dX4_isAlike_3 ?_
  refine lv_toI (z := nI (a + t)) (nI_add _ _) ?_
  refine lv_aload_n hx hb dX4_isAlike_4 rfl (lv_at hl 0 rfl) ?_
  refine va_alen (v := nI (n)) hx hb hK.1 hP.1 0 0 rfl (ht := (rfl : (gTy g)[0]? = _)) rfl dX4_isAlike_5 ?_
  refine br_gt (a := a + t) (b := n) (tgt := 18) hx hb (by omega) (by omega) dX4_isAlike_6 (by decide) (fun c6 => ?_) (fun c6 => ?_)
  · refine lv_iconst (v := bI false) hx hb dX4_isAlike_18 (by decide +kernel) ?_
    refine lv_toI (z := bI (decide (a + t ≤ n) && decide (b + t ≤ n2) && eqR f a f2 b t)) (alk_1 (by omega)) ?_
    exact hret _ _ dX4_isAlike_19
  · refine lv_iload_n hx hb dX4_isAlike_9 rfl (lv_at hl 3 rfl) ?_
    refine lv_iload hx hb dX4_isAlike_10 (lv_at hl 4 rfl) ?_
    refine lv_iadd hx hb dX4_isAlike_12 ?_
    refine lv_toI (z := nI (b + t)) (nI_add _ _) ?_
    refine lv_aload_n hx hb dX4_isAlike_13 rfl (lv_at hl 2 rfl) ?_
    refine va_alen (v := nI (n2)) hx hb hK.1 hP.2 0 0 rfl (ht := (rfl : (gTy g)[0]? = _)) rfl dX4_isAlike_14 ?_
    refine br_le (a := b + t) (b := n2) (tgt := 20) hx hb (by omega) (by omega) dX4_isAlike_15 (by decide) (fun c15 => ?_) (fun c15 => ?_)
    · refine lv_iconst (v := nI (0)) hx hb dX4_isAlike_20 (by decide +kernel) ?_
      refine lv_istore (lv' := [(5, .int (nI (0))), (0, .ref (r)), (1, .int (nI a)), (2, .ref (r2)), (3, .int (nI b)), (4, .int (nI t))]) hx hb dX4_isAlike_21 hl (by decide) rfl (fun ls hl => ?_)
      have L23 : ∀ (k1 i : Nat) (ls : Array Slot), t - i < k1 → i ≤ t → (eqR f a f2 b i = true) → lv_has ls 6 [(5, .int (nI i)), (0, .ref (r)), (1, .int (nI a)), (2, .ref (r2)), (3, .int (nI b)), (4, .int (nI t))] → W p l e { frames := 0, cells := 0, slots := 0, locals := 0 } s m args below meth c H [] 0 0 Q (F0 m 23 ls []) := by
        intro k1
        induction k1 with
        | zero => intro i ls hFu; exact absurd hFu (Nat.not_lt_zero _)
        | succ k1 ih1 =>
          intro i ls hFu hLe he hl
          refine lv_iload hx hb dX4_isAlike_23 (lv_at hl 0 rfl) ?_
          refine lv_iload hx hb dX4_isAlike_25 (lv_at hl 5 rfl) ?_
          refine br_ge (a := i) (b := t) (tgt := 53) hx hb (by omega) (by omega) dX4_isAlike_27 (by decide) (fun c27 => ?_) (fun c27 => ?_)
          · obtain rfl : t = i := by omega
            refine lv_iconst (v := bI true) hx hb dX4_isAlike_53 (by decide +kernel) ?_
            refine lv_toI (z := bI (decide (a + t ≤ n) && decide (b + t ≤ n2) && eqR f a f2 b t)) (by rw [← alk_2 (by omega) (by omega), he]) ?_
            exact hret _ _ dX4_isAlike_54
          · refine lv_aload_n hx hb dX4_isAlike_30 rfl (lv_at hl 1 rfl) ?_
            refine lv_iload_n hx hb dX4_isAlike_31 rfl (lv_at hl 2 rfl) ?_
            refine lv_iload hx hb dX4_isAlike_32 (lv_at hl 0 rfl) ?_
            refine lv_iadd hx hb dX4_isAlike_34 ?_
            refine lv_toI (z := nI (a + i)) (nI_add _ _) ?_
            refine ld_I (k := a + i) (n := n) (f := f) hx hb hK.1 hP.1 0 rfl (by omega) (by omega) dX4_isAlike_35 ?_
            refine lv_aload_n hx hb dX4_isAlike_36 rfl (lv_at hl 3 rfl) ?_
            refine lv_iload_n hx hb dX4_isAlike_37 rfl (lv_at hl 4 rfl) ?_
            refine lv_iload hx hb dX4_isAlike_38 (lv_at hl 0 rfl) ?_
            refine lv_iadd hx hb dX4_isAlike_40 ?_
            refine lv_toI (z := nI (b + i)) (nI_add _ _) ?_
            refine ld_I (k := b + i) (n := n2) (f := f2) hx hb hK.1 hP.2 0 rfl (by omega) (by omega) dX4_isAlike_41 ?_
            refine lv_icmp_eq (tgt := 47) hx hb dX4_isAlike_42 (by decide) (fun c42 => ?_) (fun c42 => ?_)
            · refine lv_iinc (v := nI (i + 1)) (lv' := [(5, .int (nI (i + 1))), (0, .ref (r)), (1, .int (nI a)), (2, .ref (r2)), (3, .int (nI b)), (4, .int (nI t))]) hx hb dX4_isAlike_47 hl (k := 0) rfl (nI_1 _) (by decide) rfl (fun ls hl => ?_)
              refine lv_goto (tgt := 23) hx hb dX4_isAlike_50 (by decide) ?_
              exact ih1 (i + 1) _ (by omega) (by omega) (eqR_go he c42) (lv_sub hl [0, 1, 2, 3, 4, 5] rfl)
            · refine lv_iconst (v := bI false) hx hb dX4_isAlike_45 (by decide +kernel) ?_
              refine lv_toI (z := bI (decide (a + t ≤ n) && decide (b + t ≤ n2) && eqR f a f2 b t)) (by rw [← alk_2 (by omega) (by omega), eqR_no c27 c42]) ?_
              exact hret _ _ dX4_isAlike_46
      exact L23 (t + 1) (0) _ (by omega) (by omega) (rfl) (lv_sub hl [0, 1, 2, 3, 4, 5] rfl)
    · refine lv_iconst (v := bI false) hx hb dX4_isAlike_18 (by decide +kernel) ?_
      refine lv_toI (z := bI (decide (a + t ≤ n) && decide (b + t ≤ n2) && eqR f a f2 b t)) (alk_1 (by omega)) ?_
      exact hret _ _ dX4_isAlike_19

set_option maxHeartbeats 4000000 in
set_option maxRecDepth 100000 in
/-- added(row, byPlace) -/
theorem c_X4_added (l : Launch) (g : gT) (r : Nat) (f : Nat → Int32) (n : Nat) (hn : n ≤ 100) (b : Bool) : pM g l yX4_added wsX4_added { frames := 0, cells := 0, slots := 0, locals := 0 } [.ref (r), .int (bI b)] (fun H => va_P (gD g) vwCl (rwW g r f n) H) (.int (adF f b n)) := by
  refine pu_ofI (cc := cX4_added) (maxL := 4) (by decide) rfl (Nat.le_of_ble_eq_true rfl) ?_
  intro p e s m args below meth c H ls Q hx hb hml hts hown hK hP hl hret
  have hl : lv_has ls 4 [(0, .ref (r)), (1, .int (bI b))] := hl
  have S : CallFix p m c cX4_added 4 s args wsX4_added RX4 := ⟨hx, hb, hml, hown, hts⟩
  refine lv_iconst (v := 0) hx hb dX4_added_0 (by decide +kernel) ?_
  refine lv_toI (z := adF f b 0) (by cases b <;> rfl) ?_
  refine lv_istore_n (lv' := [(2, .int (adF f b 0)), (0, .ref (r)), (1, .int (bI b))]) hx hb dX4_added_1 rfl hl (by decide) rfl (fun ls hl => ?_)
  refine lv_iconst (v := nI (0)) hx hb dX4_added_2 (by decide +kernel) ?_
  refine lv_istore_n (lv' := [(3, .int (nI (0))), (2, .int (adF f b 0)), (0, .ref (r)), (1, .int (bI b))]) hx hb dX4_added_3 rfl hl (by decide) rfl (fun ls hl => ?_)
  have L4 : ∀ (k1 i : Nat) (ls : Array Slot), n - i < k1 → i ≤ n → lv_has ls 4 [(3, .int (nI i)), (2, .int (adF f b i)), (0, .ref (r)), (1, .int (bI b))] → W p l e { frames := 0, cells := 0, slots := 0, locals := 0 } s m args below meth c H [] 0 0 Q (F0 m 4 ls []) := by
    intro k1
    induction k1 with
    | zero => intro i ls hFu; exact absurd hFu (Nat.not_lt_zero _)
    | succ k1 ih1 =>
      intro i ls hFu hLe hl
      refine lv_iload_n hx hb dX4_added_4 rfl (lv_at hl 0 rfl) ?_
      refine lv_aload_n hx hb dX4_added_5 rfl (lv_at hl 2 rfl) ?_
      refine va_alen (v := nI (n)) hx hb hK.1 hP 0 0 rfl (ht := (rfl : (gTy g)[0]? = _)) rfl dX4_added_6 ?_
      refine br_ge (a := i) (b := n) (tgt := 34) hx hb (by omega) (by omega) dX4_added_7 (by decide) (fun c7 => ?_) (fun c7 => ?_)
      · obtain rfl : n = i := by omega
        refine lv_iload_n hx hb dX4_added_34 rfl (lv_at hl 1 rfl) ?_
        exact hret _ _ dX4_added_35
      · refine lv_iload_n hx hb dX4_added_10 rfl (lv_at hl 1 rfl) ?_
        refine lv_aload_n hx hb dX4_added_11 rfl (lv_at hl 2 rfl) ?_
        refine lv_iload_n hx hb dX4_added_12 rfl (lv_at hl 0 rfl) ?_
        refine ld_I (k := i) (n := n) (f := f) hx hb hK.1 hP 0 rfl (by omega) (by omega) dX4_added_13 ?_
        refine lv_iload_n hx hb dX4_added_14 rfl (lv_at hl 3 rfl) ?_
        refine br_eqB (tgt := 24) hx hb dX4_added_15 (by decide) (fun c15 => ?_) (fun c15 => ?_)
        · refine lv_iconst (v := 1) hx hb dX4_added_24 (by decide +kernel) ?_
          refine lv_imul hx hb dX4_added_25 ?_
          refine lv_iadd hx hb dX4_added_26 ?_
          refine lv_toI (z := adF f b (i + 1)) (by rw [c15]; exact adF_f f i) ?_
          refine lv_istore_n (lv' := [(2, .int (adF f b (i + 1))), (3, .int (nI i)), (0, .ref (r)), (1, .int (bI b))]) hx hb dX4_added_27 rfl hl (by decide) rfl (fun ls hl => ?_)
          refine lv_iinc (v := nI (i + 1)) (lv' := [(3, .int (nI (i + 1))), (2, .int (adF f b (i + 1))), (0, .ref (r)), (1, .int (bI b))]) hx hb dX4_added_28 hl (k := 1) rfl (nI_1 _) (by decide) rfl (fun ls hl => ?_)
          refine lv_goto (tgt := 4) hx hb dX4_added_31 (by decide) ?_
          exact ih1 (i + 1) _ (by omega) (by omega) (lv_sub hl [0, 1, 2, 3] rfl)
        · refine lv_iload_n hx hb dX4_added_18 rfl (lv_at hl 0 rfl) ?_
          refine lv_iconst (v := nI (1)) hx hb dX4_added_19 (by decide +kernel) ?_
          refine lv_iadd hx hb dX4_added_20 ?_
          refine lv_toI (z := nI (i + 1)) (nI_add _ _) ?_
          refine lv_goto (tgt := 25) hx hb dX4_added_21 (by decide) ?_
          refine lv_imul hx hb dX4_added_25 ?_
          refine lv_iadd hx hb dX4_added_26 ?_
          refine lv_toI (z := adF f b (i + 1)) (by rw [c15]; exact adF_t f i) ?_
          refine lv_istore_n (lv' := [(2, .int (adF f b (i + 1))), (3, .int (nI i)), (0, .ref (r)), (1, .int (bI b))]) hx hb dX4_added_27 rfl hl (by decide) rfl (fun ls hl => ?_)
          refine lv_iinc (v := nI (i + 1)) (lv' := [(3, .int (nI (i + 1))), (2, .int (adF f b (i + 1))), (0, .ref (r)), (1, .int (bI b))]) hx hb dX4_added_28 hl (k := 1) rfl (nI_1 _) (by decide) rfl (fun ls hl => ?_)
          refine lv_goto (tgt := 4) hx hb dX4_added_31 (by decide) ?_
          exact ih1 (i + 1) _ (by omega) (by omega) (lv_sub hl [0, 1, 2, 3] rfl)
  exact L4 (n + 1) (0) _ (by omega) (by omega) (lv_sub hl [0, 1, 2, 3] rfl)

set_option maxHeartbeats 4000000 in
set_option maxRecDepth 100000 in
/-- below(v, k) -/
theorem c_L_below (l : Launch) (g : gT) (v : Int32) (k : Nat) (hk : 0 < k) (hk2 : k < 1000) : pM g l yL_below wsL_below { frames := 0, cells := 0, slots := 0, locals := 0 } [.int (v), .int (nI k)] (fun _ => True) (.int (rm (v &&& 2147483647) (nI k))) := by
  refine pu_ofI (cc := cL_below) (maxL := 2) (by decide) rfl (Nat.le_of_ble_eq_true rfl) ?_
  intro p e s m args below meth c H ls Q hx hb hml hts hown hK hP hl hret
  have hl : lv_has ls 2 [(0, .int (v)), (1, .int (nI k))] := hl
  have S : CallFix p m c cL_below 2 s args wsL_below RL := ⟨hx, hb, hml, hown, hts⟩
  have k7 := hts (.constant RL 7 (2147483647)) (by decide +kernel)
  refine lv_iload_n hx hb dL_below_0 rfl (lv_at hl 0 rfl) ?_
  refine lv_ldc (v := 2147483647) hx hb hown k7 dL_below_1 ?_
  refine lv_iand hx hb dL_below_3 ?_
  refine lv_iload_n hx hb dL_below_4 rfl (lv_at hl 1 rfl) ?_
  refine lv_irem hx hb dL_below_5 (nI_ne0 hk (by omega)) ?_
  refine lv_toI (z := rm (v &&& 2147483647) (nI k)) (rfl) ?_
  exact hret _ _ dL_below_6
