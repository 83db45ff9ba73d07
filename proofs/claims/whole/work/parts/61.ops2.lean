/-! operations that write -/
/-- letter k has changed, or has come -/
theorem Inv.letter {LL : Nat → ltT} {EE : Nat → evT} {LN : Nat → Nat} {lc lc2 ec k : Nat} {V V2 : Nat → Nat → Int32} {u : ltT} (I : Inv LL EE LN lc ec V) (hk : k < lc2) (h12 : lc2 ≤ 12) (hle : lc ≤ lc2) (hup : ∀ i, i < lc2 → i < lc ∨ i = k) (hu : u.2.2 ≤ 40) (hs : ∀ j, j < u.2.2 → u.1 j = V2 1 (40 * k + j) ∧ ∃ z : Nat, z ≤ 30 ∧ u.1 j = nI z) (h0 : V2 0 k = nI u.2.2) (h0' : ∀ i, ¬ i = k → V2 0 i = V 0 i) (h1 : ∀ i j, ¬ i = k → j < 40 → V2 1 (40 * i + j) = V 1 (40 * i + j)) (hV : ∀ a, 2 ≤ a → V2 a = V a) : Inv (fup LL k u) EE LN lc2 ec V2 := by
  obtain ⟨-, hec, hLL, hZ, hC, hE⟩ := id I
  refine ⟨h12, hec, fun i hi => ?_, fun i hi1 hi2 => ?_, fun i hi => ?_, fun q hq => ?_⟩
  · by_cases e : i = k
    · subst e; rw [fup_at]; exact hu
    · rw [fup_ne _ _ e]; exact hLL i hi
  · rw [fup_ne _ _ (by omega)]; exact hZ i (by omega) hi2
  · by_cases e : i = k
    · subst e; rw [fup_at]; exact ⟨h0, hs⟩
    · rw [fup_ne _ _ e, h0' i e]
      have hi' : i < lc := (hup i hi).resolve_right e
      refine ⟨(hC i hi').1, fun j hj => ?_⟩
      rw [h1 i j e (by have := hLL i (by omega); omega)]
      exact (hC i hi').2 j hj
  · rw [hV 2 (by decide), hV 3 (by decide), hV 4 (by decide), hV 5 (by decide), hV 6 (by decide), hV 7 (by decide), hV 8 (by decide)]
    obtain ⟨⟨a1, a2, a3⟩, b⟩ := hE q hq
    exact ⟨⟨a1, by omega, a3⟩, b⟩
theorem Inv.fupSelf {LL : Nat → ltT} {EE : Nat → evT} {LN : Nat → Nat} {lc ec k : Nat} {V : Nat → Nat → Int32} (I : Inv (fup LL k (LL k)) EE LN lc ec V) : Inv LL EE LN lc ec V := I.same (fun i => by
  by_cases e : i = k
  · subst e; rw [fup_at]; exact ⟨rfl, rfl⟩
  · rw [fup_ne _ _ e]; exact ⟨rfl, rfl⟩)
theorem sg_nat {x : Int32} (h : (decide (0 ≤ x) && decide (x ≤ 29)) = true) : ∃ z : Nat, z ≤ 30 ∧ x = nI z := by
  obtain ⟨h1, h2⟩ := bad_x h
  obtain ⟨z, hz, rfl⟩ := nI_of2 (x := x) (M := 29) (n := 29) (by decide +kernel) (Int32.not_lt.mpr h1) h2
  exact ⟨z, by omega, rfl⟩
theorem vup_hi {V : Nat → Nat → Int32} {f g : Nat → Int32} : ∀ a, 2 ≤ a → vup (vup V 0 f) 1 g a = V a := fun a ha => by
  unfold vup
  rw [if_neg (by omega), if_neg (by omega)]
theorem upd_ne {f : Nat → Int32} {k j : Nat} {x : Int32} (h : ¬ j = k) : upd f k x j = f j := if_neg h

set_option maxHeartbeats 4000000 in
set_option maxRecDepth 100000 in
theorem op_addLetter (l : Launch) (hlt : l.stackTraces = false) (g : gT) (AD : Nat → Nat) (h : Nat) (X : Nat → Nat) (LL : Nat → ltT) (EE : Nat → evT) (LN : Nat → Nat) (lc ec : Nat) (V : Nat → Nat → Int32) (th : Int32) (ou : Nat) (v : Int64) (I : Inv LL EE LN lc ec V) : Op g l AD h X LL EE lc ec V th ou v yL_addLetter wsL_addLetter { frames := 8, cells := 1, slots := 6, locals := 122 } [.ref (AD 0), .ref ou] yX3_addLetter wsX3_addLetter [.ref h] := by
  obtain ⟨hlc, hec, hLL, hZ0, hC, hE⟩ := id I
  have hEE := I.hEE
  have hNN := I.hNN
  have hEN := I.hEN
  by_cases hl : lc = 12
  · exact ⟨1, 0, v, LL, EE, LN, lc, ec, V, _, c_L_addLetter_x l hlt g AD LL EE LN lc ec hlc hec hLL hEE hl ou v, rm_ok (by decide) (by decide), c_X3_addLetter_1 l g h X V th lc ec hlc hec hl, I, fun z => absurd z (by decide +kernel)⟩
  · refine ⟨0, _, _, LL, EE, LN, lc + 1, ec, _, _, c_L_addLetter l g AD LL EE LN lc ec hlc hec hLL hEE (by omega) ou v, rm_ok (by decide) (by decide), c_X3_addLetter l g h X V th lc ec hlc hec (by omega), Inv.fupSelf (k := lc) (I.letter (k := lc) (by omega) (by omega) (by omega) (fun i hi => by omega) (by rw [hZ0 lc (Nat.le_refl lc) (by omega)]; decide) (fun j hj => by rw [hZ0 lc (Nat.le_refl lc) (by omega)] at hj; omega) ?_ (fun i hi => upd_ne hi) (fun _ _ _ _ => rfl) (fun a ha => if_neg (by omega))), fun _ => rfl⟩
    show upd (V 0) lc 0 lc = _
    rw [upd_at, hZ0 lc (Nat.le_refl lc) (by omega)]
    decide +kernel

set_option maxHeartbeats 4000000 in
set_option maxRecDepth 100000 in
theorem op_copyLetter (l : Launch) (hlt : l.stackTraces = false) (g : gT) (AD : Nat → Nat) (h : Nat) (X : Nat → Nat) (LL : Nat → ltT) (EE : Nat → evT) (LN : Nat → Nat) (lc ec : Nat) (V : Nat → Nat → Int32) (th : Int32) (ou : Nat) (v : Int64) (I : Inv LL EE LN lc ec V) (x : Int32) : Op g l AD h X LL EE lc ec V th ou v yL_copyLetter wsL_copyLetter { frames := 8, cells := 1, slots := 6, locals := 125 } [.ref (AD 0), .int x, .ref ou] yX3_copyLetter wsX3_copyLetter [.ref h, .int x] := by
  obtain ⟨hlc, hec, hLL, hZ0, hC, hE⟩ := id I
  have hEE := I.hEE
  have hNN := I.hNN
  have hEN := I.hEN
  cases hb : inB x lc with
  | false => exact ⟨1, 0, v, LL, EE, LN, lc, ec, V, _, c_L_copyLetter_x l hlt g AD LL EE LN lc ec hlc hec hLL hEE x hb ou v, rm_ok (by decide) (by decide), c_X3_copyLetter_1 l g h X V th lc ec hlc hec x hb, I, fun z => absurd z (by decide +kernel)⟩
  | true =>
    obtain ⟨k, hk, rfl⟩ := inB_of hb (by omega)
    have hR := I.row hk
    have hn40 := hLL k (by omega)
    by_cases hl : lc = 12
    · exact ⟨2, 0, v, LL, EE, LN, lc, ec, V, _, c_L_copyLetter_s l hlt g AD LL EE LN lc ec hlc hec hLL hEE k hk hl ou v, rm_ok (by decide) (by decide), c_X3_copyLetter_2 l g h X V th lc ec (fun i => (LL i).2.2) hlc hec hNN k hk hl, I, fun z => absurd z (by decide +kernel)⟩
    · refine ⟨0, _, _, _, EE, LN, lc + 1, ec, _, _, c_L_copyLetter l g AD LL EE LN lc ec hlc hec hLL hEE k hk (by omega) ou v, rm_ok (by decide) (by decide), c_X3_copyLetter l g h X V th lc ec (fun i => (LL i).2.2) hlc hec hNN k hk (by omega), I.letter (k := lc) (by omega) (by omega) (by omega) (fun i hi => by omega) hn40 (fun j hj => ?_) (upd_at _ _ _) (fun i hi => upd_ne hi) (fun i j hi hj => ?_) vup_hi, fun _ => rfl⟩
      · have hj : j < (LL k).2.2 := hj
        have e1 : flF (LL lc).1 (LL k).1 (LL k).2.2 j = (LL k).1 j := flF_in hj
        have e2 : va_cpy (V 1) (V 1) (40 * k) (40 * lc) 40 (40 * lc + j) = V 1 (40 * k + j) := by
          unfold va_cpy
          rw [if_pos ⟨by omega, by omega⟩]
          congr 1
          omega
        show flF (LL lc).1 (LL k).1 (LL k).2.2 j = va_cpy (V 1) (V 1) (40 * k) (40 * lc) 40 (40 * lc + j) ∧ ∃ z : Nat, z ≤ 30 ∧ flF (LL lc).1 (LL k).1 (LL k).2.2 j = nI z
        rw [e1, e2]
        exact ⟨hR j hj, ((hC k hk).2 j hj).2⟩
      · show va_cpy (V 1) (V 1) (40 * k) (40 * lc) 40 (40 * i + j) = _
        unfold va_cpy
        rw [if_neg (by omega)]

set_option maxHeartbeats 4000000 in
set_option maxRecDepth 100000 in
theorem op_write (l : Launch) (hlt : l.stackTraces = false) (g : gT) (AD : Nat → Nat) (h : Nat) (X : Nat → Nat) (LL : Nat → ltT) (EE : Nat → evT) (LN : Nat → Nat) (lc ec : Nat) (V : Nat → Nat → Int32) (th : Int32) (ou : Nat) (v : Int64) (I : Inv LL EE LN lc ec V) (x y : Int32) : Op g l AD h X LL EE lc ec V th ou v yL_write wsL_write { frames := 8, cells := 1, slots := 6, locals := 126 } [.ref (AD 0), .int x, .int y, .ref ou] yX3_write wsX3_write [.ref h, .int x, .int y] := by
  obtain ⟨hlc, hec, hLL, hZ0, hC, hE⟩ := id I
  have hEE := I.hEE
  have hNN := I.hNN
  have hEN := I.hEN
  cases hb : inB x lc with
  | false => exact ⟨1, 0, v, LL, EE, LN, lc, ec, V, _, c_L_write_x l hlt g AD LL EE LN lc ec hlc hec hLL hEE x hb y ou v, rm_ok (by decide) (by decide), c_X3_write_1 l g h X V th lc ec hlc hec x hb y, I, fun z => absurd z (by decide +kernel)⟩
  | true =>
    obtain ⟨k, hk, rfl⟩ := inB_of hb (by omega)
    have hR := I.row hk
    have hn40 := hLL k (by omega)
    cases hs : (decide (0 ≤ y) && decide (y ≤ 29)) with
    | false => exact ⟨2, 0, v, LL, EE, LN, lc, ec, V, _, c_L_write_a l hlt g AD LL EE LN lc ec hlc hec hLL hEE k hk y hs ou v, rm_ok (by decide) (by decide), c_X3_write_2 l g h X V th lc ec (fun i => (LL i).2.2) hlc hec hNN k hk y hs, I, fun z => absurd z (by decide +kernel)⟩
    | true =>
      by_cases hn : (LL k).2.2 = 40
      · exact ⟨3, 0, v, LL, EE, LN, lc, ec, V, _, c_L_write_s l hlt g AD LL EE LN lc ec hlc hec hLL hEE k hk y hs hn ou v, rm_ok (by decide) (by decide), c_X3_write_3 l g h X V th lc ec (fun i => (LL i).2.2) hlc hec hNN k hk y hs hn, I, fun z => absurd z (by decide +kernel)⟩
      · refine ⟨0, _, _, _, EE, LN, lc, ec, _, _, c_L_write l g AD LL EE LN lc ec hlc hec hLL hEE k hk y hs (by omega) ou v, rm_ok (by decide) (by decide), c_X3_write l g h X V th lc ec (fun i => (LL i).2.2) hlc hec hNN k hk y hs (by show (LL k).2.2 < 40; omega), I.letter (k := k) hk hlc (Nat.le_refl lc) (fun i hi => Or.inl hi) (by show (LL k).2.2 + 1 ≤ 40; omega) (fun j hj => ?_) (upd_at _ _ _) (fun i hi => upd_ne hi) (fun i j hi hj => upd_ne (by have := hn40; omega)) vup_hi, fun _ => rfl⟩
        show upd (LL k).1 (LL k).2.2 y j = upd (V 1) (40 * k + (LL k).2.2) y (40 * k + j) ∧ ∃ z : Nat, z ≤ 30 ∧ upd (LL k).1 (LL k).2.2 y j = nI z
        have hj : j < (LL k).2.2 + 1 := hj
        by_cases e : j = (LL k).2.2
        · subst e
          rw [upd_at, upd_at]
          exact ⟨rfl, sg_nat hs⟩
        · rw [upd_ne e, upd_ne (by omega)]
          exact (hC k hk).2 j (by omega)

set_option maxHeartbeats 4000000 in
set_option maxRecDepth 100000 in
theorem op_erase (l : Launch) (hlt : l.stackTraces = false) (g : gT) (AD : Nat → Nat) (h : Nat) (X : Nat → Nat) (LL : Nat → ltT) (EE : Nat → evT) (LN : Nat → Nat) (lc ec : Nat) (V : Nat → Nat → Int32) (th : Int32) (ou : Nat) (v : Int64) (I : Inv LL EE LN lc ec V) (x : Int32) : Op g l AD h X LL EE lc ec V th ou v yL_erase wsL_erase { frames := 8, cells := 1, slots := 6, locals := 125 } [.ref (AD 0), .int x, .ref ou] yX3_erase wsX3_erase [.ref h, .int x] := by
  obtain ⟨hlc, hec, hLL, hZ0, hC, hE⟩ := id I
  have hEE := I.hEE
  have hNN := I.hNN
  have hEN := I.hEN
  cases hb : inB x lc with
  | false => exact ⟨1, 0, v, LL, EE, LN, lc, ec, V, _, c_L_erase_x l hlt g AD LL EE LN lc ec hlc hec hLL hEE x hb ou v, rm_ok (by decide) (by decide), c_X3_erase_1 l g h X V th lc ec hlc hec x hb, I, fun z => absurd z (by decide +kernel)⟩
  | true =>
    obtain ⟨k, hk, rfl⟩ := inB_of hb (by omega)
    have hR := I.row hk
    have hn40 := hLL k (by omega)
    by_cases hn : (LL k).2.2 = 0
    · exact ⟨2, 0, v, LL, EE, LN, lc, ec, V, _, c_L_erase_s l hlt g AD LL EE LN lc ec hlc hec hLL hEE k hk hn ou v, rm_ok (by decide) (by decide), c_X3_erase_2 l g h X V th lc ec (fun i => (LL i).2.2) hlc hec hNN k hk hn, I, fun z => absurd z (by decide +kernel)⟩
    · refine ⟨0, _, _, _, EE, LN, lc, ec, _, _, c_L_erase l g AD LL EE LN lc ec hlc hec hLL hEE k hk (Nat.pos_of_ne_zero hn) ou v, rm_ok (by decide) (by decide), c_X3_erase l g h X V th lc ec (fun i => (LL i).2.2) hlc hec hNN k hk (Nat.pos_of_ne_zero hn), I.letter (k := k) hk hlc (Nat.le_refl lc) (fun i hi => Or.inl hi) (by show (LL k).2.2 - 1 ≤ 40; omega) (fun j hj => (hC k hk).2 j (by have hj : j < (LL k).2.2 - 1 := hj; omega)) (upd_at _ _ _) (fun i hi => upd_ne hi) (fun _ _ _ _ => rfl) (fun a ha => if_neg (by omega)), fun _ => congrArg Int32.toInt64 (hR _ (by omega))⟩

set_option maxHeartbeats 4000000 in
set_option maxRecDepth 100000 in
theorem op_forge (l : Launch) (hlt : l.stackTraces = false) (g : gT) (AD : Nat → Nat) (h : Nat) (X : Nat → Nat) (LL : Nat → ltT) (EE : Nat → evT) (LN : Nat → Nat) (lc ec : Nat) (V : Nat → Nat → Int32) (th : Int32) (ou : Nat) (v : Int64) (I : Inv LL EE LN lc ec V) (x y : Int32) : Op g l AD h X LL EE lc ec V th ou v yL_forge wsL_forge { frames := 9, cells := 1, slots := 6, locals := 149 } [.ref (AD 0), .int x, .int y, .ref ou] yX3_forge wsX3_forge [.ref h, .int x, .int y] := by
  obtain ⟨hlc, hec, hLL, hZ0, hC, hE⟩ := id I
  have hEE := I.hEE
  have hNN := I.hNN
  have hEN := I.hEN
  cases hb : inB x lc with
  | false => exact ⟨1, 0, v, LL, EE, LN, lc, ec, V, _, c_L_forge_x l hlt g AD LL EE LN lc ec hlc hec hLL hEE x hb y ou v, rm_ok (by decide) (by decide), c_X3_forge_1 l g h X V th lc ec hlc hec x hb y, I, fun z => absurd z (by decide +kernel)⟩
  | true =>
    obtain ⟨k, hk, rfl⟩ := inB_of hb (by omega)
    have hR := I.row hk
    have hn40 := hLL k (by omega)
    cases hy : inB y (LL k).2.2 with
    | false => exact ⟨1, 0, v, LL, EE, LN, lc, ec, V, _, c_L_forge_y l hlt g AD LL EE LN lc ec hlc hec hLL hEE k hk y hy ou v, rm_ok (by decide) (by decide), c_X3_forge_1b l g h X V th lc ec (fun i => (LL i).2.2) hlc hec hNN k hk y hy, I, fun z => absurd z (by decide +kernel)⟩
    | true =>
      obtain ⟨j, hj, rfl⟩ := inB_of hy (by omega)
      by_cases hz : (LL k).1 j = 27
      · exact ⟨2, 0, v, LL, EE, LN, lc, ec, V, _, c_L_forge_s l hlt g AD LL EE LN lc ec hlc hec hLL hEE k hk j hj hz ou v, rm_ok (by decide) (by decide), c_X3_forge_2 l g h X V th lc ec (fun i => (LL i).2.2) hlc hec hNN k hk j hj (by rw [← show (LL k).1 j = V 1 (40 * k + j) from hR j hj]; exact hz), I, fun z => absurd z (by decide +kernel)⟩
      · refine ⟨0, _, _, _, EE, LN, lc, ec, _, _, c_L_forge l g AD LL EE LN lc ec hlc hec hLL hEE k hk j hj hz ou v, rm_ok (by decide) (by decide), c_X3_forge l g h X V th lc ec (fun i => (LL i).2.2) hlc hec hNN k hk j hj (by rw [← show (LL k).1 j = V 1 (40 * k + j) from hR j hj]; exact hz), I.letter (k := k) hk hlc (Nat.le_refl lc) (fun i hi => Or.inl hi) hn40 (fun i hi => ?_) (hC k hk).1 (fun _ _ => rfl) (fun i j2 hi hj2 => upd_ne (by omega)) (fun a ha => if_neg (by omega)), fun _ => congrArg Int32.toInt64 (hR j hj)⟩
        show upd (LL k).1 j 27 i = upd (V 1) (40 * k + j) 27 (40 * k + i) ∧ ∃ zz : Nat, zz ≤ 30 ∧ upd (LL k).1 j 27 i = nI zz
        by_cases e : i = j
        · subst e
          rw [upd_at, upd_at]
          exact ⟨rfl, 27, by decide, by decide +kernel⟩
        · rw [upd_ne e, upd_ne (by omega)]
          exact (hC k hk).2 i hi

set_option maxHeartbeats 4000000 in
set_option maxRecDepth 100000 in
theorem op_tear (l : Launch) (hlt : l.stackTraces = false) (g : gT) (AD : Nat → Nat) (h : Nat) (X : Nat → Nat) (LL : Nat → ltT) (EE : Nat → evT) (LN : Nat → Nat) (lc ec : Nat) (V : Nat → Nat → Int32) (th : Int32) (ou : Nat) (v : Int64) (I : Inv LL EE LN lc ec V) (x y : Int32) : Op g l AD h X LL EE lc ec V th ou v yL_tear wsL_tear { frames := 9, cells := 1, slots := 6, locals := 149 } [.ref (AD 0), .int x, .int y, .ref ou] yX3_tear wsX3_tear [.ref h, .int x, .int y] := by
  obtain ⟨hlc, hec, hLL, hZ0, hC, hE⟩ := id I
  have hEE := I.hEE
  have hNN := I.hNN
  have hEN := I.hEN
  cases hb : inB x lc with
  | false => exact ⟨1, 0, v, LL, EE, LN, lc, ec, V, _, c_L_tear_x l hlt g AD LL EE LN lc ec hlc hec hLL hEE x hb y ou v, rm_ok (by decide) (by decide), c_X3_tear_1 l g h X V th lc ec hlc hec x hb y, I, fun z => absurd z (by decide +kernel)⟩
  | true =>
    obtain ⟨k, hk, rfl⟩ := inB_of hb (by omega)
    have hR := I.row hk
    have hn40 := hLL k (by omega)
    cases hy : inB y (LL k).2.2 with
    | false => exact ⟨1, 0, v, LL, EE, LN, lc, ec, V, _, c_L_tear_y l hlt g AD LL EE LN lc ec hlc hec hLL hEE k hk y hy ou v, rm_ok (by decide) (by decide), c_X3_tear_1b l g h X V th lc ec (fun i => (LL i).2.2) hlc hec hNN k hk y hy, I, fun z => absurd z (by decide +kernel)⟩
    | true =>
      obtain ⟨j, hj, rfl⟩ := inB_of hy (by omega)
      by_cases hz : (LL k).1 j = 30
      · exact ⟨2, 0, v, LL, EE, LN, lc, ec, V, _, c_L_tear_s l hlt g AD LL EE LN lc ec hlc hec hLL hEE k hk j hj hz ou v, rm_ok (by decide) (by decide), c_X3_tear_2 l g h X V th lc ec (fun i => (LL i).2.2) hlc hec hNN k hk j hj (by rw [← show (LL k).1 j = V 1 (40 * k + j) from hR j hj]; exact hz), I, fun z => absurd z (by decide +kernel)⟩
      · refine ⟨0, _, _, _, EE, LN, lc, ec, _, _, c_L_tear l g AD LL EE LN lc ec hlc hec hLL hEE k hk j hj hz ou v, rm_ok (by decide) (by decide), c_X3_tear l g h X V th lc ec (fun i => (LL i).2.2) hlc hec hNN k hk j hj (by rw [← show (LL k).1 j = V 1 (40 * k + j) from hR j hj]; exact hz), I.letter (k := k) hk hlc (Nat.le_refl lc) (fun i hi => Or.inl hi) hn40 (fun i hi => ?_) (hC k hk).1 (fun _ _ => rfl) (fun i j2 hi hj2 => upd_ne (by omega)) (fun a ha => if_neg (by omega)), fun _ => congrArg Int32.toInt64 (hR j hj)⟩
        show upd (LL k).1 j 30 i = upd (V 1) (40 * k + j) 30 (40 * k + i) ∧ ∃ zz : Nat, zz ≤ 30 ∧ upd (LL k).1 j 30 i = nI zz
        by_cases e : i = j
        · subst e
          rw [upd_at, upd_at]
          exact ⟨rfl, 30, by decide, by decide +kernel⟩
        · rw [upd_ne e, upd_ne (by omega)]
          exact (hC k hk).2 i hi

set_option maxHeartbeats 4000000 in
set_option maxRecDepth 100000 in
theorem op_mend (l : Launch) (hlt : l.stackTraces = false) (g : gT) (AD : Nat → Nat) (h : Nat) (X : Nat → Nat) (LL : Nat → ltT) (EE : Nat → evT) (LN : Nat → Nat) (lc ec : Nat) (V : Nat → Nat → Int32) (th : Int32) (ou : Nat) (v : Int64) (I : Inv LL EE LN lc ec V) (x y z : Int32) : Op g l AD h X LL EE lc ec V th ou v yL_mend wsL_mend { frames := 9, cells := 1, slots := 6, locals := 150 } [.ref (AD 0), .int x, .int y, .int z, .ref ou] yX3_mend wsX3_mend [.ref h, .int x, .int y, .int z] := by
  obtain ⟨hlc, hec, hLL, hZ0, hC, hE⟩ := id I
  have hEE := I.hEE
  have hNN := I.hNN
  have hEN := I.hEN
  cases hb : inB x lc with
  | false => exact ⟨1, 0, v, LL, EE, LN, lc, ec, V, _, c_L_mend_x l hlt g AD LL EE LN lc ec hlc hec hLL hEE x hb y z ou v, rm_ok (by decide) (by decide), c_X3_mend_1 l g h X V th lc ec hlc hec x hb y z, I, fun z => absurd z (by decide +kernel)⟩
  | true =>
    obtain ⟨k, hk, rfl⟩ := inB_of hb (by omega)
    have hR := I.row hk
    have hn40 := hLL k (by omega)
    cases hy : inB y (LL k).2.2 with
    | false => exact ⟨1, 0, v, LL, EE, LN, lc, ec, V, _, c_L_mend_y l hlt g AD LL EE LN lc ec hlc hec hLL hEE k hk y hy z ou v, rm_ok (by decide) (by decide), c_X3_mend_1b l g h X V th lc ec (fun i => (LL i).2.2) hlc hec hNN k hk y hy z, I, fun z => absurd z (by decide +kernel)⟩
    | true =>
      obtain ⟨j, hj, rfl⟩ := inB_of hy (by omega)
      cases hs : (decide (0 ≤ z) && decide (z ≤ 29)) with
      | false => exact ⟨2, 0, v, LL, EE, LN, lc, ec, V, _, c_L_mend_a l hlt g AD LL EE LN lc ec hlc hec hLL hEE k hk j hj z hs ou v, rm_ok (by decide) (by decide), c_X3_mend_2 l g h X V th lc ec (fun i => (LL i).2.2) hlc hec hNN k hk j hj z hs, I, fun z => absurd z (by decide +kernel)⟩
      | true =>
        by_cases hz : (LL k).1 j = 30
        · refine ⟨0, _, _, _, EE, LN, lc, ec, _, _, c_L_mend l g AD LL EE LN lc ec hlc hec hLL hEE k hk j hj z hs hz ou v, rm_ok (by decide) (by decide), c_X3_mend l g h X V th lc ec (fun i => (LL i).2.2) hlc hec hNN k hk j hj z hs (by rw [← show (LL k).1 j = V 1 (40 * k + j) from hR j hj]; exact hz), I.letter (k := k) hk hlc (Nat.le_refl lc) (fun i hi => Or.inl hi) hn40 (fun i hi => ?_) (hC k hk).1 (fun _ _ => rfl) (fun i j2 hi hj2 => upd_ne (by omega)) (fun a ha => if_neg (by omega)), fun _ => congrArg Int32.toInt64 (cntF_congr (fun i hi => ?_))⟩
          show upd (LL k).1 j z i = upd (V 1) (40 * k + j) z (40 * k + i) ∧ ∃ zz : Nat, zz ≤ 30 ∧ upd (LL k).1 j z i = nI zz
          by_cases e : i = j
          · subst e
            rw [upd_at, upd_at]
            exact ⟨rfl, sg_nat hs⟩
          · rw [upd_ne e, upd_ne (by omega)]
            exact (hC k hk).2 i hi
          show upd (LL k).1 j z i = upd (V 1) (40 * k + j) z (40 * k + i)
          by_cases e : i = j
          · subst e; rw [upd_at, upd_at]
          · rw [upd_ne e, upd_ne (by omega)]; exact hR i hi
        · exact ⟨3, 0, v, LL, EE, LN, lc, ec, V, _, c_L_mend_s l hlt g AD LL EE LN lc ec hlc hec hLL hEE k hk j hj z hs hz ou v, rm_ok (by decide) (by decide), c_X3_mend_3 l g h X V th lc ec (fun i => (LL i).2.2) hlc hec hNN k hk j hj z hs (by rw [← show (LL k).1 j = V 1 (40 * k + j) from hR j hj]; exact hz), I, fun z => absurd z (by decide +kernel)⟩

set_option maxHeartbeats 4000000 in
set_option maxRecDepth 100000 in
theorem op_sumOf (l : Launch) (hlt : l.stackTraces = false) (g : gT) (AD : Nat → Nat) (h : Nat) (X : Nat → Nat) (LL : Nat → ltT) (EE : Nat → evT) (LN : Nat → Nat) (lc ec : Nat) (V : Nat → Nat → Int32) (th : Int32) (ou : Nat) (v : Int64) (I : Inv LL EE LN lc ec V) (x y z : Int32) : Op g l AD h X LL EE lc ec V th ou v yL_sumOf wsL_sumOf { frames := 8, cells := 1, slots := 6, locals := 127 } [.ref (AD 0), .int x, .int y, .int z, .ref ou] yX3_sumOf wsX3_sumOf [.ref h, .int x, .int y, .int z] := by
  obtain ⟨hlc, hec, hLL, hZ0, hC, hE⟩ := id I
  have hEE := I.hEE
  have hNN := I.hNN
  have hEN := I.hEN
  cases hb : inB x lc with
  | false => exact ⟨1, 0, v, LL, EE, LN, lc, ec, V, _, c_L_sumOf_x l hlt g AD LL EE LN lc ec hlc hec hLL hEE x hb y z ou v, rm_ok (by decide) (by decide), c_X3_sumOf_1 l g h X V th lc ec hlc hec x hb y z, I, fun z => absurd z (by decide +kernel)⟩
  | true =>
    obtain ⟨k, hk, rfl⟩ := inB_of hb (by omega)
    have hR := I.row hk
    have hn40 := hLL k (by omega)
    cases hc : ((decide (1 ≤ z) && decide (z ≤ nI (LL k).2.2)) && (decide (0 ≤ y) && decide (y ≤ nI (LL k).2.2 - z))) with
    | false => exact ⟨2, 0, v, LL, EE, LN, lc, ec, V, _, c_L_sumOf_a l hlt g AD LL EE LN lc ec hlc hec hLL hEE k hk y z hc ou v, rm_ok (by decide) (by decide), c_X3_sumOf_2 l g h X V th lc ec (fun i => (LL i).2.2) hlc hec hNN k hk y z hc, I, fun z => absurd z (by decide +kernel)⟩
    | true =>
      obtain ⟨h1, h2⟩ := Bool.and_eq_true_iff.mp hc
      obtain ⟨h3, h4⟩ := bad_x h1
      obtain ⟨t, ht, rfl⟩ := nI_of2 (x := z) (M := nI (LL k).2.2) (n := (LL k).2.2) (nI_toInt (by omega)) (fun q => absurd (Int32.lt_of_le_of_lt h3 q) (by decide +kernel)) h4
      rw [pk_sub ht] at h2
      obtain ⟨h5, h6⟩ := bad_x h2
      obtain ⟨o, ho, rfl⟩ := nI_of2 (x := y) (M := nI ((LL k).2.2 - t)) (n := (LL k).2.2 - t) (nI_toInt (by omega)) (Int32.not_lt.mpr h5) h6
      have ht1 : 1 ≤ t := Nat.pos_of_ne_zero fun q => by
        subst q
        exact absurd h3 (by decide +kernel)
      exact ⟨0, _, _, LL, EE, LN, lc, ec, V, _, c_L_sumOf l g AD LL EE LN lc ec hlc hec hLL hEE k hk o t ht1 (by omega) ou v, rm_ok (by decide) (by decide), c_X3_sumOf l g h X V th lc ec (fun i => (LL i).2.2) hlc hec hNN k hk o t ht1 (by show o + t ≤ (LL k).2.2; omega), I, fun _ => congrArg Int32.toInt64 (wnF_congr fun j hj => hR _ (by omega))⟩

set_option maxHeartbeats 4000000 in
set_option maxRecDepth 100000 in
theorem op_unseal (l : Launch) (hlt : l.stackTraces = false) (g : gT) (AD : Nat → Nat) (h : Nat) (X : Nat → Nat) (LL : Nat → ltT) (EE : Nat → evT) (LN : Nat → Nat) (lc ec : Nat) (V : Nat → Nat → Int32) (th : Int32) (ou : Nat) (v : Int64) (I : Inv LL EE LN lc ec V) : Op g l AD h X LL EE lc ec V th ou v yL_unseal wsL_unseal { frames := 7, cells := 1, slots := 6, locals := 102 } [.ref (AD 0), .ref ou] yX3_unseal wsX3_unseal [.ref h] := by
  obtain ⟨hlc, hec, hLL, hZ0, hC, hE⟩ := id I
  have hEE := I.hEE
  have hNN := I.hNN
  have hEN := I.hEN
  by_cases he : ec = 0
  · exact ⟨1, 0, v, LL, EE, LN, lc, ec, V, _, c_L_unseal_s l hlt g AD LL EE LN lc ec hlc hec hLL hEE he ou v, rm_ok (by decide) (by decide), c_X3_unseal_1 l g h X V th lc ec hlc hec he, I, fun z => absurd z (by decide +kernel)⟩
  · refine ⟨0, _, _, LL, EE, LN, lc, ec - 1, V, _, c_L_unseal l g AD LL EE LN lc ec hlc hec hLL hEE (by omega) ou v, rm_ok (by decide) (by decide), c_X3_unseal l g h X V th lc ec hlc hec (by omega), ⟨hlc, by omega, hLL, hZ0, hC, fun q hq => hE q (by omega)⟩, fun _ => congrArg Int32.toInt64 (hE (ec - 1) (by omega)).2.2.1.2.2.symm⟩

set_option maxHeartbeats 4000000 in
set_option maxRecDepth 100000 in
theorem op_seal (l : Launch) (hlt : l.stackTraces = false) (g : gT) (AD : Nat → Nat) (h : Nat) (X : Nat → Nat) (LL : Nat → ltT) (EE : Nat → evT) (LN : Nat → Nat) (lc ec : Nat) (V : Nat → Nat → Int32) (th : Int32) (ou : Nat) (v : Int64) (I : Inv LL EE LN lc ec V) (x : Int32) : Op g l AD h X LL EE lc ec V th ou v yL_seal wsL_seal { frames := 8, cells := 1, slots := 6, locals := 125 } [.ref (AD 0), .int x, .ref ou] yX3_seal wsX3_seal [.ref h, .int x] := by
  obtain ⟨hlc, hec, hLL, hZ0, hC, hE⟩ := id I
  have hEE := I.hEE
  have hNN := I.hNN
  have hEN := I.hEN
  cases hb : inB x lc with
  | false => exact ⟨1, 0, v, LL, EE, LN, lc, ec, V, _, c_L_seal_x l hlt g AD LL EE LN lc ec hlc hec hLL hEE x hb ou v, rm_ok (by decide) (by decide), c_X3_seal_1 l g h X V th lc ec hlc hec x hb, I, fun z => absurd z (by decide +kernel)⟩
  | true =>
    obtain ⟨k, hk, rfl⟩ := inB_of hb (by omega)
    have hR := I.row hk
    have hn40 := hLL k (by omega)
    by_cases he : ec = 24
    · exact ⟨2, 0, v, LL, EE, LN, lc, ec, V, _, c_L_seal_s l hlt g AD LL EE LN lc ec hlc hec hLL hEE k hk he ou v, rm_ok (by decide) (by decide), c_X3_seal_2 l g h X V th lc ec (fun i => (LL i).2.2) hlc hec hNN k hk he, I, fun z => absurd z (by decide +kernel)⟩
    · by_cases hn : (LL k).2.2 = 0
      · exact ⟨2, 0, v, LL, EE, LN, lc, ec, V, _, c_L_seal_t l hlt g AD LL EE LN lc ec hlc hec hLL hEE k hk (by omega) hn ou v, rm_ok (by decide) (by decide), c_X3_seal_2b l g h X V th lc ec (fun i => (LL i).2.2) hlc hec hNN k hk (by omega) hn, I, fun z => absurd z (by decide +kernel)⟩
      · refine ⟨0, _, _, LL, _, fup LN ec k, lc, ec + 1, _, _, c_L_seal l g AD LL EE LN lc ec hlc hec hLL hEE k hk (Nat.pos_of_ne_zero hn) (by omega) ou v, rm_ok (by decide) (by decide), c_X3_seal l g h X V th lc ec (fun i => (LL i).2.2) hlc hec hNN k hk (Nat.pos_of_ne_zero hn) (by omega), ⟨hlc, by omega, hLL, hZ0, hC, fun q hq => ?_⟩, fun _ => rfl⟩
        obtain ⟨s1, s2⟩ := sm_nat (I.nat hk)
        obtain ⟨w1, w2⟩ := wt_natS hn40 (I.nat hk)
        by_cases e : q = ec
        · subst e
          rw [fup_at, fup_at]
          refine ⟨⟨rfl, hk, hn40, rfl⟩, ⟨upd_at _ _ _, ?_, upd_at _ _ _, fun u hu => ?_⟩, ⟨?_, ?_, ?_⟩, ⟨?_, ?_⟩, ?_, ?_⟩
          · exact (upd_at _ _ _).trans (dgF_congr hR).symm
          · have hu : u < ((LL k).2.2 + 4) / 5 := hu
            exact (pbF_in (by omega)).trans ((blF_congr hR).symm.trans (flF_in hu).symm)
          · exact (upd_at _ _ _).trans (smF_congr hR).symm
          · exact (upd_at _ _ _).trans (wtF_congr hR).symm
          · refine (upd_at _ _ _).trans ?_
            show slF (lsV (V 8) q) (dgF (rwV V k) (LL k).2.2) = slF (lsD EE q) (dgF (LL k).1 (LL k).2.2)
            rw [ls_eq (S := V 8) (fun a ha => (hE a ha).2.2.1.2.2), dgF_congr hR]
          · show 0 ≤ (smF (LL k).1 (LL k).2.2).toInt
            rw [s1, nI_toInt (by omega)]; omega
          · show (smF (LL k).1 (LL k).2.2).toInt ≤ 1200
            rw [s1, nI_toInt (by omega)]; omega
          · show 0 ≤ (wtF (LL k).1 (LL k).2.2).toInt
            rw [w1, nI_toInt (by omega)]; omega
          · show (wtF (LL k).1 (LL k).2.2).toInt ≤ 48000
            rw [w1, nI_toInt (by omega)]; omega
        · rw [fup_ne _ _ e, fup_ne _ _ e]
          obtain ⟨a, ⟨b1, b2, b3, b4⟩, ⟨d1, d2, d3⟩, f⟩ := hE q (by omega)
          refine ⟨a, ⟨(upd_ne e).trans b1, (upd_ne e).trans b2, (upd_ne e).trans b3, fun u hu => (pbF_out (by omega)).trans (b4 u hu)⟩, ⟨(upd_ne e).trans d1, (upd_ne e).trans d2, (upd_ne e).trans d3⟩, f⟩
