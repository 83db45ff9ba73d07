/-! THE INVARIANT of class and reference together; what each operation does -/
def Inv (LL : Nat → ltT) (EE : Nat → evT) (LN : Nat → Nat) (lc ec : Nat) (V : Nat → Nat → Int32) : Prop :=
  lc ≤ 12 ∧ ec ≤ 24 ∧ (∀ i, i < 12 → (LL i).2.2 ≤ 40) ∧ (∀ i, lc ≤ i → i < 12 → (LL i).2.2 = 0) ∧
  (∀ i, i < lc → V 0 i = nI (LL i).2.2 ∧ ∀ j, j < (LL i).2.2 → (LL i).1 j = V 1 (40 * i + j) ∧ ∃ u : Nat, u ≤ 30 ∧ (LL i).1 j = nI u) ∧
  ∀ q, q < ec → ((EE q).1 = nI (LN q) ∧ LN q < lc ∧ (EE q).2.2.1 ≤ 40 ∧ (EE q).2.2.2.1 = ((EE q).2.2.1 + 4) / 5) ∧ (V 2 q = nI (LN q) ∧ V 3 q = (EE q).2.1 ∧ V 4 q = nI (EE q).2.2.1 ∧ ∀ u, u < (EE q).2.2.2.1 → V 5 (8 * q + u) = (EE q).2.2.2.2.2.2.2 u) ∧
    (V 6 q = (EE q).2.2.2.2.1 ∧ V 7 q = (EE q).2.2.2.2.2.1 ∧ V 8 q = (EE q).2.2.2.2.2.2.1) ∧ (0 ≤ (EE q).2.2.2.2.1.toInt ∧ (EE q).2.2.2.2.1.toInt ≤ 1200) ∧ 0 ≤ (EE q).2.2.2.2.2.1.toInt ∧ (EE q).2.2.2.2.2.1.toInt ≤ 48000
section INV
variable {LL LL2 : Nat → ltT} {EE : Nat → evT} {LN : Nat → Nat} {lc ec : Nat} {V : Nat → Nat → Int32}
theorem Inv.hEE (I : Inv LL EE LN lc ec V) : ∀ q, q < ec → (EE q).1 = nI (LN q) ∧ LN q < lc ∧ (EE q).2.2.1 ≤ 40 ∧ (EE q).2.2.2.1 ≤ 8 := fun q hq => by
  obtain ⟨⟨a1, a2, a3, a4⟩, -⟩ := I.2.2.2.2.2 q hq
  exact ⟨a1, a2, a3, by omega⟩
theorem Inv.hNN (I : Inv LL EE LN lc ec V) : ∀ i, i < lc → V 0 i = nI ((fun i => (LL i).2.2) i) ∧ (fun i => (LL i).2.2) i ≤ 40 := fun i hi => ⟨(I.2.2.2.2.1 i hi).1, I.2.2.1 i (Nat.lt_of_lt_of_le hi I.1)⟩
theorem Inv.hEN (I : Inv LL EE LN lc ec V) : ∀ q, q < ec → V 2 q = nI (LN q) ∧ LN q < lc ∧ V 4 q = nI ((fun q => (EE q).2.2.1) q) ∧ (fun q => (EE q).2.2.1) q ≤ 40 := fun q hq => by
  obtain ⟨⟨a1, a2, a3, a4⟩, ⟨b1, b2, b3, b4⟩, -⟩ := I.2.2.2.2.2 q hq
  exact ⟨b1, a2, b3, a3⟩
theorem Inv.row (I : Inv LL EE LN lc ec V) {k : Nat} (hk : k < lc) : ∀ j, j < (LL k).2.2 → (LL k).1 j = rwV V k j := fun j hj => ((I.2.2.2.2.1 k hk).2 j hj).1
/-- signs as numbers -/
theorem Inv.nat (I : Inv LL EE LN lc ec V) {k : Nat} (hk : k < lc) : ∀ j, j < (LL k).2.2 → (LL k).1 j = nI ((LL k).1 j).toNatClampNeg ∧ ((LL k).1 j).toNatClampNeg ≤ 30 := fun j hj => by
  obtain ⟨-, u, hu, e⟩ := (I.2.2.2.2.1 k hk).2 j hj
  rw [e, nI_clamp (by omega)]
  exact ⟨rfl, hu⟩
/-- the class's rows of window sums are its own affair -/
theorem Inv.same (I : Inv LL EE LN lc ec V) (h : ∀ i, (LL2 i).1 = (LL i).1 ∧ (LL2 i).2.2 = (LL i).2.2) : Inv LL2 EE LN lc ec V :=
  ⟨I.1, I.2.1, fun i hi => by rw [(h i).2]; exact I.2.2.1 i hi, fun i h1 h2 => by rw [(h i).2]; exact I.2.2.2.1 i h1 h2, fun i hi => by rw [(h i).1, (h i).2]; exact I.2.2.2.2.1 i hi, I.2.2.2.2.2⟩
end INV
def Op (g : gT) (l : Launch) (AD : Nat → Nat) (h : Nat) (X : Nat → Nat) (LL : Nat → ltT) (EE : Nat → evT) (lc ec : Nat) (V : Nat → Nat → Int32) (th : Int32) (ou : Nat) (v : Int64) (yW : MethodName) (wsW : List Cond) (rmW : Room) (avW : List Value) (yM : MethodName) (wsM : List Cond) (avM : List Value) : Prop :=
  ∃ (code r : Int32) (v' : Int64) (LL' : Nat → ltT) (EE' : Nat → evT) (LN' : Nat → Nat) (lc' ec' : Nat) (V' : Nat → Nat → Int32) (rm : Room), lM g l yW wsW rmW avW (wsD g AD LL EE lc ec) ou v code (wsD g AD LL' EE' lc' ec') v' ∧ (rm.frames ≤ 6 ∧ rm.cells = 0 ∧ rm.slots = 0 ∧ rm.locals ≤ 200) ∧ wM g l yM wsM rm avM (mdW g h X V th lc ec) (some (.int r)) (mdW g h X V' code lc' ec') ∧ Inv LL' EE' LN' lc' ec' V' ∧ (code = 0 → v' = r.toInt64)
theorem rm_ok {a b : Nat} (ha : a ≤ 6) (hb : b ≤ 200) : ({ frames := a, cells := 0, slots := 0, locals := b } : Room).frames ≤ 6 ∧ ({ frames := a, cells := 0, slots := 0, locals := b } : Room).cells = 0 ∧ ({ frames := a, cells := 0, slots := 0, locals := b } : Room).slots = 0 ∧ ({ frames := a, cells := 0, slots := 0, locals := b } : Room).locals ≤ 200 := ⟨ha, rfl, rfl, hb⟩
theorem bad_x {x lo hi : Int32} (h : (decide (lo ≤ x) && decide (x ≤ hi)) = true) : lo ≤ x ∧ x ≤ hi := by
  rw [Bool.and_eq_true, decide_eq_true_eq, decide_eq_true_eq] at h
  exact h
theorem rng_of {y : Int32} (h : (decide (1 ≤ y) && decide (y ≤ 40)) = true) : ∃ t : Nat, 1 ≤ t ∧ t ≤ 40 ∧ y = nI t := by
  obtain ⟨h1, h2⟩ := bad_x h
  obtain ⟨t, ht, rfl⟩ := nI_of2 (x := y) (M := 40) (n := 40) (by decide +kernel) (fun q => absurd (Int32.lt_of_le_of_lt h1 q) (by decide +kernel)) h2
  refine ⟨t, Nat.pos_of_ne_zero fun z => ?_, ht, rfl⟩
  subst z
  exact absurd h1 (by decide +kernel)
theorem fsF_or {P : Nat → Bool} : ∀ r i, fsF P r i = -1 ∨ ∃ j, i ≤ j ∧ j < i + r ∧ fsF P r i = nI j
  | 0, _ => Or.inl rfl
  | r + 1, i => by
    by_cases q : P i = true
    · exact Or.inr ⟨i, Nat.le_refl i, by omega, by rw [fsF, if_pos q]⟩
    · rw [fsF, if_neg q]
      rcases fsF_or (P := P) r (i + 1) with h | ⟨j, h1, h2, h3⟩
      · exact Or.inl h
      · exact Or.inr ⟨j, by omega, by omega, h3⟩

theorem chC_congr {fit : Bool} {sc n : Nat} {lo lw : Int32} {f g : Nat → Int32} (h : ∀ j, j < n → f j = g j) : chC fit sc n lo lw f = chC fit sc n lo lw g := by
  unfold chC
  rw [fsF_congr (P := chP lo lw f) (Q := chP lo lw g) fun j _ hj => by unfold chP; rw [h j (by omega)]]
def smN (F : Nat → Nat) : Nat → Nat
  | 0 => 0
  | k + 1 => smN F k + F k
def wtN (F : Nat → Nat) : Nat → Nat
  | 0 => 0
  | k + 1 => wtN F k + F k * (k + 1)
theorem sm_nat {f : Nat → Int32} {F : Nat → Nat} : ∀ {n : Nat}, (∀ j, j < n → f j = nI (F j) ∧ F j ≤ 30) → smF f n = nI (smN F n) ∧ smN F n ≤ 30 * n
  | 0, _ => ⟨by show (0 : Int32) = nI 0; decide +kernel, Nat.le_refl _⟩
  | n + 1, h => by
    obtain ⟨h1, h2⟩ := sm_nat (f := f) (F := F) (n := n) fun j hj => h j (by omega)
    obtain ⟨h3, h4⟩ := h n (by omega)
    exact ⟨by rw [smF, smN, h1, h3, nI_add], by rw [smN]; omega⟩
theorem wt_natS {f : Nat → Int32} {F : Nat → Nat} : ∀ {n : Nat}, n ≤ 40 → (∀ j, j < n → f j = nI (F j) ∧ F j ≤ 30) → wtF f n = nI (wtN F n) ∧ wtN F n ≤ 1200 * n
  | 0, _, _ => ⟨by show (0 : Int32) = nI 0; decide +kernel, Nat.le_refl _⟩
  | n + 1, hn, h => by
    obtain ⟨h1, h2⟩ := wt_natS (f := f) (F := F) (n := n) (by omega) fun j hj => h j (by omega)
    obtain ⟨h3, h4⟩ := h n (by omega)
    have h5 : F n * (n + 1) ≤ 30 * 40 := Nat.mul_le_mul h4 hn
    exact ⟨by rw [wtF, wtN, h1, h3, pk_mul, nI_add], by rw [wtN]; omega⟩
theorem sub_b {x : Int32} {a : Nat} {B : Int} (h1 : 0 ≤ x.toInt) (h2 : x.toInt ≤ B) (ha : (a : Int) ≤ B) (hB : B ≤ 100000) : -B ≤ (x - nI a).toInt ∧ (x - nI a).toInt ≤ B := by
  rw [Int32.toInt_sub, nI_toInt (by omega), bm_ok (by omega) (by omega)]
  omega
theorem ch_D {LL : Nat → ltT} {EE : Nat → evT} {LN : Nat → Nat} {V : Nat → Nat → Int32} {q : Nat} {F : Nat → Nat} (hn : (LL (LN q)).2.2 ≤ 40) (hF : ∀ j, j < (LL (LN q)).2.2 → (LL (LN q)).1 j = nI (F j) ∧ F j ≤ 30) (hR : ∀ j, j < (LL (LN q)).2.2 → (LL (LN q)).1 j = rwV V (LN q) j) (hft : ftD LL EE LN q = asP V (fun i => (LL i).2.2) LN q) (d1 : V 6 q = (EE q).2.2.2.2.1) (d2 : V 7 q = (EE q).2.2.2.2.2.1) (f1 : 0 ≤ (EE q).2.2.2.2.1.toInt) (f2 : (EE q).2.2.2.2.1.toInt ≤ 1200) (f3 : 0 ≤ (EE q).2.2.2.2.2.1.toInt) (f4 : (EE q).2.2.2.2.2.1.toInt ≤ 48000) :
    chD LL EE LN q = chM (asP V (fun i => (LL i).2.2) LN q) (EE q).2.2.1 (LL (LN q)).2.2 (V 6 q - smF (rwV V (LN q)) (LL (LN q)).2.2) (V 7 q - wtF (rwV V (LN q)) (LL (LN q)).2.2) (rwV V (LN q)) := by
  obtain ⟨s1, s2⟩ := sm_nat hF
  obtain ⟨w1, w2⟩ := wt_natS hn hF
  have b1 := sub_b (B := 1200) (a := smN F (LL (LN q)).2.2) f1 f2 (by omega) (by omega)
  have b2 := sub_b (B := 48000) (a := wtN F (LL (LN q)).2.2) f3 f4 (by omega) (by omega)
  unfold chD
  rw [hft, chC_congr hR, ← smF_congr hR, ← wtF_congr hR, d1, d2, s1, w1]
  exact ch_eq hn (by omega) (by omega)
theorem chD_or (LL : Nat → ltT) (EE : Nat → evT) (LN : Nat → Nat) (q : Nat) : chD LL EE LN q = -1 ∨ ∃ j, j < (LL (LN q)).2.2 ∧ chD LL EE LN q = nI j := by
  unfold chD chC
  split
  · exact Or.inl rfl
  · rcases fsF_or (P := chP ((EE q).2.2.2.2.1 - smF (LL (LN q)).1 (LL (LN q)).2.2) ((EE q).2.2.2.2.2.1 - wtF (LL (LN q)).1 (LL (LN q)).2.2) (LL (LN q)).1) (LL (LN q)).2.2 0 with h | ⟨j, -, h2, h3⟩
    · exact Or.inl h
    · exact Or.inr ⟨j, by omega, h3⟩

set_option maxHeartbeats 4000000 in
set_option maxRecDepth 100000 in
theorem op_signsOf (l : Launch) (hlt : l.stackTraces = false) (g : gT) (AD : Nat → Nat) (h : Nat) (X : Nat → Nat) (LL : Nat → ltT) (EE : Nat → evT) (LN : Nat → Nat) (lc ec : Nat) (V : Nat → Nat → Int32) (th : Int32) (ou : Nat) (v : Int64) (I : Inv LL EE LN lc ec V) (x : Int32) : Op g l AD h X LL EE lc ec V th ou v yL_signsOf wsL_signsOf { frames := 8, cells := 1, slots := 6, locals := 124 } [.ref (AD 0), .int x, .ref ou] yX3_signsOf wsX3_signsOf [.ref h, .int x] := by
  obtain ⟨hlc, hec, hLL, hZ0, hC, hE⟩ := id I
  have hEE := I.hEE
  have hNN := I.hNN
  have hEN := I.hEN
  cases hb : inB x lc with
  | false => exact ⟨1, 0, v, LL, EE, LN, lc, ec, V, _, c_L_signsOf_x l hlt g AD LL EE LN lc ec hlc hec hLL hEE x hb ou v, rm_ok (by decide) (by decide), c_X3_signsOf_1 l g h X V th lc ec hlc hec x hb, I, fun z => absurd z (by decide +kernel)⟩
  | true =>
    obtain ⟨k, hk, rfl⟩ := inB_of hb (by omega)
    have hR := I.row hk
    exact ⟨0, _, _, LL, EE, LN, lc, ec, V, _, c_L_signsOf l g AD LL EE LN lc ec hlc hec hLL hEE k hk ou v, rm_ok (by decide) (by decide), c_X3_signsOf l g h X V th lc ec (fun i => (LL i).2.2) hlc hec hNN k hk, I, fun _ => rfl⟩

set_option maxHeartbeats 4000000 in
set_option maxRecDepth 100000 in
theorem op_commasOf (l : Launch) (hlt : l.stackTraces = false) (g : gT) (AD : Nat → Nat) (h : Nat) (X : Nat → Nat) (LL : Nat → ltT) (EE : Nat → evT) (LN : Nat → Nat) (lc ec : Nat) (V : Nat → Nat → Int32) (th : Int32) (ou : Nat) (v : Int64) (I : Inv LL EE LN lc ec V) (x : Int32) : Op g l AD h X LL EE lc ec V th ou v yL_commasOf wsL_commasOf { frames := 8, cells := 1, slots := 6, locals := 124 } [.ref (AD 0), .int x, .ref ou] yX3_commasOf wsX3_commasOf [.ref h, .int x] := by
  obtain ⟨hlc, hec, hLL, hZ0, hC, hE⟩ := id I
  have hEE := I.hEE
  have hNN := I.hNN
  have hEN := I.hEN
  cases hb : inB x lc with
  | false => exact ⟨1, 0, v, LL, EE, LN, lc, ec, V, _, c_L_commasOf_x l hlt g AD LL EE LN lc ec hlc hec hLL hEE x hb ou v, rm_ok (by decide) (by decide), c_X3_commasOf_1 l g h X V th lc ec hlc hec x hb, I, fun z => absurd z (by decide +kernel)⟩
  | true =>
    obtain ⟨k, hk, rfl⟩ := inB_of hb (by omega)
    have hR := I.row hk
    exact ⟨0, _, _, LL, EE, LN, lc, ec, V, _, c_L_commasOf l g AD LL EE LN lc ec hlc hec hLL hEE k hk ou v, rm_ok (by decide) (by decide), c_X3_commasOf l g h X V th lc ec (fun i => (LL i).2.2) hlc hec hNN k hk, I, fun _ => congrArg Int32.toInt64 (cntF_congr hR)⟩

set_option maxHeartbeats 4000000 in
set_option maxRecDepth 100000 in
theorem op_tearsOf (l : Launch) (hlt : l.stackTraces = false) (g : gT) (AD : Nat → Nat) (h : Nat) (X : Nat → Nat) (LL : Nat → ltT) (EE : Nat → evT) (LN : Nat → Nat) (lc ec : Nat) (V : Nat → Nat → Int32) (th : Int32) (ou : Nat) (v : Int64) (I : Inv LL EE LN lc ec V) (x : Int32) : Op g l AD h X LL EE lc ec V th ou v yL_tearsOf wsL_tearsOf { frames := 8, cells := 1, slots := 6, locals := 124 } [.ref (AD 0), .int x, .ref ou] yX3_tearsOf wsX3_tearsOf [.ref h, .int x] := by
  obtain ⟨hlc, hec, hLL, hZ0, hC, hE⟩ := id I
  have hEE := I.hEE
  have hNN := I.hNN
  have hEN := I.hEN
  cases hb : inB x lc with
  | false => exact ⟨1, 0, v, LL, EE, LN, lc, ec, V, _, c_L_tearsOf_x l hlt g AD LL EE LN lc ec hlc hec hLL hEE x hb ou v, rm_ok (by decide) (by decide), c_X3_tearsOf_1 l g h X V th lc ec hlc hec x hb, I, fun z => absurd z (by decide +kernel)⟩
  | true =>
    obtain ⟨k, hk, rfl⟩ := inB_of hb (by omega)
    have hR := I.row hk
    exact ⟨0, _, _, LL, EE, LN, lc, ec, V, _, c_L_tearsOf l g AD LL EE LN lc ec hlc hec hLL hEE k hk ou v, rm_ok (by decide) (by decide), c_X3_tearsOf l g h X V th lc ec (fun i => (LL i).2.2) hlc hec hNN k hk, I, fun _ => congrArg Int32.toInt64 (cntF_congr hR)⟩

set_option maxHeartbeats 4000000 in
set_option maxRecDepth 100000 in
theorem op_digestOf (l : Launch) (hlt : l.stackTraces = false) (g : gT) (AD : Nat → Nat) (h : Nat) (X : Nat → Nat) (LL : Nat → ltT) (EE : Nat → evT) (LN : Nat → Nat) (lc ec : Nat) (V : Nat → Nat → Int32) (th : Int32) (ou : Nat) (v : Int64) (I : Inv LL EE LN lc ec V) (x : Int32) : Op g l AD h X LL EE lc ec V th ou v yL_digestOf wsL_digestOf { frames := 8, cells := 1, slots := 6, locals := 124 } [.ref (AD 0), .int x, .ref ou] yX3_digestOf wsX3_digestOf [.ref h, .int x] := by
  obtain ⟨hlc, hec, hLL, hZ0, hC, hE⟩ := id I
  have hEE := I.hEE
  have hNN := I.hNN
  have hEN := I.hEN
  cases hb : inB x lc with
  | false => exact ⟨1, 0, v, LL, EE, LN, lc, ec, V, _, c_L_digestOf_x l hlt g AD LL EE LN lc ec hlc hec hLL hEE x hb ou v, rm_ok (by decide) (by decide), c_X3_digestOf_1 l g h X V th lc ec hlc hec x hb, I, fun z => absurd z (by decide +kernel)⟩
  | true =>
    obtain ⟨k, hk, rfl⟩ := inB_of hb (by omega)
    have hR := I.row hk
    exact ⟨0, _, _, LL, EE, LN, lc, ec, V, _, c_L_digestOf l g AD LL EE LN lc ec hlc hec hLL hEE k hk ou v, rm_ok (by decide) (by decide), c_X3_digestOf l g h X V th lc ec (fun i => (LL i).2.2) hlc hec hNN k hk, I, fun _ => congrArg Int32.toInt64 (dgF_congr hR)⟩

set_option maxHeartbeats 4000000 in
set_option maxRecDepth 100000 in
theorem op_unnoticed (l : Launch) (hlt : l.stackTraces = false) (g : gT) (AD : Nat → Nat) (h : Nat) (X : Nat → Nat) (LL : Nat → ltT) (EE : Nat → evT) (LN : Nat → Nat) (lc ec : Nat) (V : Nat → Nat → Int32) (th : Int32) (ou : Nat) (v : Int64) (I : Inv LL EE LN lc ec V) (x : Int32) : Op g l AD h X LL EE lc ec V th ou v yL_unnoticed wsL_unnoticed { frames := 8, cells := 1, slots := 6, locals := 124 } [.ref (AD 0), .int x, .ref ou] yX3_unnoticed wsX3_unnoticed [.ref h, .int x] := by
  obtain ⟨hlc, hec, hLL, hZ0, hC, hE⟩ := id I
  have hEE := I.hEE
  have hNN := I.hNN
  have hEN := I.hEN
  cases hb : inB x lc with
  | false => exact ⟨1, 0, v, LL, EE, LN, lc, ec, V, _, c_L_unnoticed_x l hlt g AD LL EE LN lc ec hlc hec hLL hEE x hb ou v, rm_ok (by decide) (by decide), c_X3_unnoticed_1 l g h X V th lc ec hlc hec x hb, I, fun z => absurd z (by decide +kernel)⟩
  | true =>
    obtain ⟨k, hk, rfl⟩ := inB_of hb (by omega)
    have hR := I.row hk
    exact ⟨0, _, _, LL, EE, LN, lc, ec, V, _, c_L_unnoticed l g AD LL EE LN lc ec hlc hec hLL hEE k hk ou v, rm_ok (by decide) (by decide), c_X3_unnoticed l g h X V th lc ec (fun i => (LL i).2.2) hlc hec hNN k hk, I, fun _ => congrArg Int32.toInt64 (unF_congr hR)⟩

set_option maxHeartbeats 4000000 in
set_option maxRecDepth 100000 in
theorem op_worstTear (l : Launch) (hlt : l.stackTraces = false) (g : gT) (AD : Nat → Nat) (h : Nat) (X : Nat → Nat) (LL : Nat → ltT) (EE : Nat → evT) (LN : Nat → Nat) (lc ec : Nat) (V : Nat → Nat → Int32) (th : Int32) (ou : Nat) (v : Int64) (I : Inv LL EE LN lc ec V) (x : Int32) : Op g l AD h X LL EE lc ec V th ou v yL_worstTear wsL_worstTear { frames := 8, cells := 1, slots := 6, locals := 124 } [.ref (AD 0), .int x, .ref ou] yX3_worstTear wsX3_worstTear [.ref h, .int x] := by
  obtain ⟨hlc, hec, hLL, hZ0, hC, hE⟩ := id I
  have hEE := I.hEE
  have hNN := I.hNN
  have hEN := I.hEN
  cases hb : inB x lc with
  | false => exact ⟨1, 0, v, LL, EE, LN, lc, ec, V, _, c_L_worstTear_x l hlt g AD LL EE LN lc ec hlc hec hLL hEE x hb ou v, rm_ok (by decide) (by decide), c_X3_worstTear_1 l g h X V th lc ec hlc hec x hb, I, fun z => absurd z (by decide +kernel)⟩
  | true =>
    obtain ⟨k, hk, rfl⟩ := inB_of hb (by omega)
    have hR := I.row hk
    exact ⟨0, _, _, LL, EE, LN, lc, ec, V, _, c_L_worstTear l g AD LL EE LN lc ec hlc hec hLL hEE k hk ou v, rm_ok (by decide) (by decide), c_X3_worstTear l g h X V th lc ec (fun i => (LL i).2.2) hlc hec hNN k hk, I, fun _ => congrArg Int32.toInt64 (ws_eq (hLL k (by omega)) (I.nat hk) hR)⟩

set_option maxHeartbeats 4000000 in
set_option maxRecDepth 100000 in
theorem op_signAt (l : Launch) (hlt : l.stackTraces = false) (g : gT) (AD : Nat → Nat) (h : Nat) (X : Nat → Nat) (LL : Nat → ltT) (EE : Nat → evT) (LN : Nat → Nat) (lc ec : Nat) (V : Nat → Nat → Int32) (th : Int32) (ou : Nat) (v : Int64) (I : Inv LL EE LN lc ec V) (x y : Int32) : Op g l AD h X LL EE lc ec V th ou v yL_signAt wsL_signAt { frames := 9, cells := 1, slots := 6, locals := 148 } [.ref (AD 0), .int x, .int y, .ref ou] yX3_signAt wsX3_signAt [.ref h, .int x, .int y] := by
  obtain ⟨hlc, hec, hLL, hZ0, hC, hE⟩ := id I
  have hEE := I.hEE
  have hNN := I.hNN
  have hEN := I.hEN
  cases hb : inB x lc with
  | false => exact ⟨1, 0, v, LL, EE, LN, lc, ec, V, _, c_L_signAt_x l hlt g AD LL EE LN lc ec hlc hec hLL hEE x hb y ou v, rm_ok (by decide) (by decide), c_X3_signAt_1 l g h X V th lc ec hlc hec x hb y, I, fun z => absurd z (by decide +kernel)⟩
  | true =>
    obtain ⟨k, hk, rfl⟩ := inB_of hb (by omega)
    have hR := I.row hk
    cases hy : inB y (LL k).2.2 with
    | false => exact ⟨1, 0, v, LL, EE, LN, lc, ec, V, _, c_L_signAt_y l hlt g AD LL EE LN lc ec hlc hec hLL hEE k hk y hy ou v, rm_ok (by decide) (by decide), c_X3_signAt_1b l g h X V th lc ec (fun i => (LL i).2.2) hlc hec hNN k hk y hy, I, fun z => absurd z (by decide +kernel)⟩
    | true =>
      obtain ⟨j, hj, rfl⟩ := inB_of hy (by have := hLL k (by omega); omega)
      exact ⟨0, _, _, LL, EE, LN, lc, ec, V, _, c_L_signAt l g AD LL EE LN lc ec hlc hec hLL hEE k hk j hj ou v, rm_ok (by decide) (by decide), c_X3_signAt l g h X V th lc ec (fun i => (LL i).2.2) hlc hec hNN k hk j hj, I, fun _ => congrArg Int32.toInt64 (hR j hj)⟩

set_option maxHeartbeats 4000000 in
set_option maxRecDepth 100000 in
theorem op_sameSums (l : Launch) (hlt : l.stackTraces = false) (g : gT) (AD : Nat → Nat) (h : Nat) (X : Nat → Nat) (LL : Nat → ltT) (EE : Nat → evT) (LN : Nat → Nat) (lc ec : Nat) (V : Nat → Nat → Int32) (th : Int32) (ou : Nat) (v : Int64) (I : Inv LL EE LN lc ec V) (x y : Int32) : Op g l AD h X LL EE lc ec V th ou v yL_sameSums wsL_sameSums { frames := 8, cells := 1, slots := 6, locals := 126 } [.ref (AD 0), .int x, .int y, .ref ou] yX3_sameSums wsX3_sameSums [.ref h, .int x, .int y] := by
  obtain ⟨hlc, hec, hLL, hZ0, hC, hE⟩ := id I
  have hEE := I.hEE
  have hNN := I.hNN
  have hEN := I.hEN
  cases hb : inB x lc with
  | false => exact ⟨1, 0, v, LL, EE, LN, lc, ec, V, _, c_L_sameSums_x l hlt g AD LL EE LN lc ec hlc hec hLL hEE x hb y ou v, rm_ok (by decide) (by decide), c_X3_sameSums_1 l g h X V th lc ec hlc hec x hb y, I, fun z => absurd z (by decide +kernel)⟩
  | true =>
    obtain ⟨k, hk, rfl⟩ := inB_of hb (by omega)
    have hR := I.row hk
    cases hy : (decide (1 ≤ y) && decide (y ≤ 40)) with
    | false => exact ⟨2, 0, v, LL, EE, LN, lc, ec, V, _, c_L_sameSums_a l hlt g AD LL EE LN lc ec hlc hec hLL hEE k hk y hy ou v, rm_ok (by decide) (by decide), c_X3_sameSums_2 l g h X V th lc ec (fun i => (LL i).2.2) hlc hec hNN k hk y hy, I, fun z => absurd z (by decide +kernel)⟩
    | true =>
      obtain ⟨t, ht, ht2, rfl⟩ := rng_of hy
      exact ⟨0, _, _, _, EE, LN, lc, ec, V, _, c_L_sameSums l g AD LL EE LN lc ec hlc hec hLL hEE k hk t ht ht2 ou v, rm_ok (by decide) (by decide), c_X3_sameSums l g h X V th lc ec (fun i => (LL i).2.2) hlc hec hNN k hk t ht ht2, I.same (fun i => by
        by_cases e : i = k
        · subst e; rw [fup_at]; exact ⟨rfl, rfl⟩
        · rw [fup_ne _ _ e]; exact ⟨rfl, rfl⟩), fun _ => congrArg Int32.toInt64 (ss_eq ht hR)⟩

set_option maxHeartbeats 4000000 in
set_option maxRecDepth 100000 in
theorem op_falseAlarms (l : Launch) (hlt : l.stackTraces = false) (g : gT) (AD : Nat → Nat) (h : Nat) (X : Nat → Nat) (LL : Nat → ltT) (EE : Nat → evT) (LN : Nat → Nat) (lc ec : Nat) (V : Nat → Nat → Int32) (th : Int32) (ou : Nat) (v : Int64) (I : Inv LL EE LN lc ec V) (x y : Int32) : Op g l AD h X LL EE lc ec V th ou v yL_falseAlarms wsL_falseAlarms { frames := 8, cells := 1, slots := 6, locals := 126 } [.ref (AD 0), .int x, .int y, .ref ou] yX3_falseAlarms wsX3_falseAlarms [.ref h, .int x, .int y] := by
  obtain ⟨hlc, hec, hLL, hZ0, hC, hE⟩ := id I
  have hEE := I.hEE
  have hNN := I.hNN
  have hEN := I.hEN
  cases hb : inB x lc with
  | false => exact ⟨1, 0, v, LL, EE, LN, lc, ec, V, _, c_L_falseAlarms_x l hlt g AD LL EE LN lc ec hlc hec hLL hEE x hb y ou v, rm_ok (by decide) (by decide), c_X3_falseAlarms_1 l g h X V th lc ec hlc hec x hb y, I, fun z => absurd z (by decide +kernel)⟩
  | true =>
    obtain ⟨k, hk, rfl⟩ := inB_of hb (by omega)
    have hR := I.row hk
    cases hy : (decide (1 ≤ y) && decide (y ≤ 40)) with
    | false => exact ⟨2, 0, v, LL, EE, LN, lc, ec, V, _, c_L_falseAlarms_a l hlt g AD LL EE LN lc ec hlc hec hLL hEE k hk y hy ou v, rm_ok (by decide) (by decide), c_X3_falseAlarms_2 l g h X V th lc ec (fun i => (LL i).2.2) hlc hec hNN k hk y hy, I, fun z => absurd z (by decide +kernel)⟩
    | true =>
      obtain ⟨t, ht, ht2, rfl⟩ := rng_of hy
      exact ⟨0, _, _, _, EE, LN, lc, ec, V, _, c_L_falseAlarms l g AD LL EE LN lc ec hlc hec hLL hEE k hk t ht ht2 ou v, rm_ok (by decide) (by decide), c_X3_falseAlarms l g h X V th lc ec (fun i => (LL i).2.2) hlc hec hNN k hk t ht ht2, I.same (fun i => by
        by_cases e : i = k
        · subst e; rw [fup_at]; exact ⟨rfl, rfl⟩
        · rw [fup_ne _ _ e]; exact ⟨rfl, rfl⟩), fun _ => congrArg Int32.toInt64 (ss_eq ht hR)⟩

set_option maxHeartbeats 4000000 in
set_option maxRecDepth 100000 in
theorem op_firstOf (l : Launch) (hlt : l.stackTraces = false) (g : gT) (AD : Nat → Nat) (h : Nat) (X : Nat → Nat) (LL : Nat → ltT) (EE : Nat → evT) (LN : Nat → Nat) (lc ec : Nat) (V : Nat → Nat → Int32) (th : Int32) (ou : Nat) (v : Int64) (I : Inv LL EE LN lc ec V) (x y : Int32) : Op g l AD h X LL EE lc ec V th ou v yL_firstOf wsL_firstOf { frames := 8, cells := 1, slots := 6, locals := 127 } [.ref (AD 0), .int x, .int y, .ref ou] yX3_firstOf wsX3_firstOf [.ref h, .int x, .int y] := by
  obtain ⟨hlc, hec, hLL, hZ0, hC, hE⟩ := id I
  have hEE := I.hEE
  have hNN := I.hNN
  have hEN := I.hEN
  cases hb : inB x lc with
  | false => exact ⟨1, 0, v, LL, EE, LN, lc, ec, V, _, c_L_firstOf_x l hlt g AD LL EE LN lc ec hlc hec hLL hEE x hb y ou v, rm_ok (by decide) (by decide), c_X3_firstOf_1 l g h X V th lc ec hlc hec x hb y, I, fun z => absurd z (by decide +kernel)⟩
  | true =>
    obtain ⟨k, hk, rfl⟩ := inB_of hb (by omega)
    have hR := I.row hk
    cases hy : inB y lc with
    | false => exact ⟨1, 0, v, LL, EE, LN, lc, ec, V, _, c_L_firstOf_y l hlt g AD LL EE LN lc ec hlc hec hLL hEE k hk y hy ou v, rm_ok (by decide) (by decide), c_X3_firstOf_1b l g h X V th lc ec (fun i => (LL i).2.2) hlc hec hNN k hk y hy, I, fun z => absurd z (by decide +kernel)⟩
    | true =>
      obtain ⟨k2, hk2, rfl⟩ := inB_of hy (by omega)
      have hR2 := I.row hk2
      by_cases hn : (LL k2).2.2 = 0
      · exact ⟨2, 0, v, LL, EE, LN, lc, ec, V, _, c_L_firstOf_s l hlt g AD LL EE LN lc ec hlc hec hLL hEE k hk k2 hk2 hn ou v, rm_ok (by decide) (by decide), c_X3_firstOf_2 l g h X V th lc ec (fun i => (LL i).2.2) hlc hec hNN k hk k2 hk2 hn, I, fun z => absurd z (by decide +kernel)⟩
      · exact ⟨0, _, _, LL, EE, LN, lc, ec, V, _, c_L_firstOf l g AD LL EE LN lc ec hlc hec hLL hEE k hk k2 hk2 (Nat.pos_of_ne_zero hn) ou v, rm_ok (by decide) (by decide), c_X3_firstOf l g h X V th lc ec (fun i => (LL i).2.2) hlc hec hNN k hk k2 hk2 (Nat.pos_of_ne_zero hn), I, fun _ => congrArg Int32.toInt64 (fo_eq hR hR2)⟩

set_option maxHeartbeats 4000000 in
set_option maxRecDepth 100000 in
theorem op_wouldSeal (l : Launch) (hlt : l.stackTraces = false) (g : gT) (AD : Nat → Nat) (h : Nat) (X : Nat → Nat) (LL : Nat → ltT) (EE : Nat → evT) (LN : Nat → Nat) (lc ec : Nat) (V : Nat → Nat → Int32) (th : Int32) (ou : Nat) (v : Int64) (I : Inv LL EE LN lc ec V) (x : Int32) : Op g l AD h X LL EE lc ec V th ou v yL_wouldSeal wsL_wouldSeal { frames := 8, cells := 1, slots := 6, locals := 125 } [.ref (AD 0), .int x, .ref ou] yX3_wouldSeal wsX3_wouldSeal [.ref h, .int x] := by
  obtain ⟨hlc, hec, hLL, hZ0, hC, hE⟩ := id I
  have hEE := I.hEE
  have hNN := I.hNN
  have hEN := I.hEN
  cases hb : inB x lc with
  | false => exact ⟨1, 0, v, LL, EE, LN, lc, ec, V, _, c_L_wouldSeal_x l hlt g AD LL EE LN lc ec hlc hec hLL hEE x hb ou v, rm_ok (by decide) (by decide), c_X3_wouldSeal_1 l g h X V th lc ec hlc hec x hb, I, fun z => absurd z (by decide +kernel)⟩
  | true =>
    obtain ⟨k, hk, rfl⟩ := inB_of hb (by omega)
    have hR := I.row hk
    by_cases hn : (LL k).2.2 = 0
    · exact ⟨2, 0, v, LL, EE, LN, lc, ec, V, _, c_L_wouldSeal_s l hlt g AD LL EE LN lc ec hlc hec hLL hEE k hk hn ou v, rm_ok (by decide) (by decide), c_X3_wouldSeal_2 l g h X V th lc ec (fun i => (LL i).2.2) hlc hec hNN k hk hn, I, fun z => absurd z (by decide +kernel)⟩
    · exact ⟨0, _, _, LL, EE, LN, lc, ec, V, _, c_L_wouldSeal l g AD LL EE LN lc ec hlc hec hLL hEE k hk (Nat.pos_of_ne_zero hn) ou v, rm_ok (by decide) (by decide), c_X3_wouldSeal l g h X V th lc ec (fun i => (LL i).2.2) hlc hec hNN k hk (Nat.pos_of_ne_zero hn), I, fun _ => congrArg Int32.toInt64 (by rw [ls_eq (S := V 8) (fun q hq => (hE q hq).2.2.1.2.2), dgF_congr hR])⟩

set_option maxHeartbeats 4000000 in
set_option maxRecDepth 100000 in
theorem op_letterIn (l : Launch) (hlt : l.stackTraces = false) (g : gT) (AD : Nat → Nat) (h : Nat) (X : Nat → Nat) (LL : Nat → ltT) (EE : Nat → evT) (LN : Nat → Nat) (lc ec : Nat) (V : Nat → Nat → Int32) (th : Int32) (ou : Nat) (v : Int64) (I : Inv LL EE LN lc ec V) (x : Int32) : Op g l AD h X LL EE lc ec V th ou v yL_letterIn wsL_letterIn { frames := 8, cells := 1, slots := 6, locals := 124 } [.ref (AD 0), .int x, .ref ou] yX3_letterIn wsX3_letterIn [.ref h, .int x] := by
  obtain ⟨hlc, hec, hLL, hZ0, hC, hE⟩ := id I
  have hEE := I.hEE
  have hNN := I.hNN
  have hEN := I.hEN
  cases hb : inB x ec with
  | false => exact ⟨1, 0, v, LL, EE, LN, lc, ec, V, _, c_L_letterIn_x l hlt g AD LL EE LN lc ec hlc hec hLL hEE x hb ou v, rm_ok (by decide) (by decide), c_X3_letterIn_1 l g h X V th lc ec hlc hec x hb, I, fun z => absurd z (by decide +kernel)⟩
  | true =>
    obtain ⟨q, hq, rfl⟩ := inB_of hb (by omega)
    obtain ⟨⟨a1, a2, a3, a4⟩, ⟨b1, b2, b3, b4⟩, ⟨d1, d2, d3⟩, ⟨f1, f2⟩, f3, f4⟩ := hE q hq
    have hR := I.row a2
    exact ⟨0, _, _, LL, EE, LN, lc, ec, V, _, c_L_letterIn l g AD LL EE LN lc ec hlc hec hLL hEE q hq ou v, rm_ok (by decide) (by decide), c_X3_letterIn l g h X V th lc ec (fun i => (LL i).2.2) hlc hec hNN LN (fun q => (EE q).2.2.1) hEN q hq, I, fun _ => rfl⟩

set_option maxHeartbeats 4000000 in
set_option maxRecDepth 100000 in
theorem op_digestIn (l : Launch) (hlt : l.stackTraces = false) (g : gT) (AD : Nat → Nat) (h : Nat) (X : Nat → Nat) (LL : Nat → ltT) (EE : Nat → evT) (LN : Nat → Nat) (lc ec : Nat) (V : Nat → Nat → Int32) (th : Int32) (ou : Nat) (v : Int64) (I : Inv LL EE LN lc ec V) (x : Int32) : Op g l AD h X LL EE lc ec V th ou v yL_digestIn wsL_digestIn { frames := 8, cells := 1, slots := 6, locals := 124 } [.ref (AD 0), .int x, .ref ou] yX3_digestIn wsX3_digestIn [.ref h, .int x] := by
  obtain ⟨hlc, hec, hLL, hZ0, hC, hE⟩ := id I
  have hEE := I.hEE
  have hNN := I.hNN
  have hEN := I.hEN
  cases hb : inB x ec with
  | false => exact ⟨1, 0, v, LL, EE, LN, lc, ec, V, _, c_L_digestIn_x l hlt g AD LL EE LN lc ec hlc hec hLL hEE x hb ou v, rm_ok (by decide) (by decide), c_X3_digestIn_1 l g h X V th lc ec hlc hec x hb, I, fun z => absurd z (by decide +kernel)⟩
  | true =>
    obtain ⟨q, hq, rfl⟩ := inB_of hb (by omega)
    obtain ⟨⟨a1, a2, a3, a4⟩, ⟨b1, b2, b3, b4⟩, ⟨d1, d2, d3⟩, ⟨f1, f2⟩, f3, f4⟩ := hE q hq
    have hR := I.row a2
    exact ⟨0, _, _, LL, EE, LN, lc, ec, V, _, c_L_digestIn l g AD LL EE LN lc ec hlc hec hLL hEE q hq ou v, rm_ok (by decide) (by decide), c_X3_digestIn l g h X V th lc ec (fun i => (LL i).2.2) hlc hec hNN LN (fun q => (EE q).2.2.1) hEN q hq, I, fun _ => congrArg Int32.toInt64 b2.symm⟩

set_option maxHeartbeats 4000000 in
set_option maxRecDepth 100000 in
theorem op_sealOf (l : Launch) (hlt : l.stackTraces = false) (g : gT) (AD : Nat → Nat) (h : Nat) (X : Nat → Nat) (LL : Nat → ltT) (EE : Nat → evT) (LN : Nat → Nat) (lc ec : Nat) (V : Nat → Nat → Int32) (th : Int32) (ou : Nat) (v : Int64) (I : Inv LL EE LN lc ec V) (x : Int32) : Op g l AD h X LL EE lc ec V th ou v yL_sealOf wsL_sealOf { frames := 8, cells := 1, slots := 6, locals := 124 } [.ref (AD 0), .int x, .ref ou] yX3_sealOf wsX3_sealOf [.ref h, .int x] := by
  obtain ⟨hlc, hec, hLL, hZ0, hC, hE⟩ := id I
  have hEE := I.hEE
  have hNN := I.hNN
  have hEN := I.hEN
  cases hb : inB x ec with
  | false => exact ⟨1, 0, v, LL, EE, LN, lc, ec, V, _, c_L_sealOf_x l hlt g AD LL EE LN lc ec hlc hec hLL hEE x hb ou v, rm_ok (by decide) (by decide), c_X3_sealOf_1 l g h X V th lc ec hlc hec x hb, I, fun z => absurd z (by decide +kernel)⟩
  | true =>
    obtain ⟨q, hq, rfl⟩ := inB_of hb (by omega)
    obtain ⟨⟨a1, a2, a3, a4⟩, ⟨b1, b2, b3, b4⟩, ⟨d1, d2, d3⟩, ⟨f1, f2⟩, f3, f4⟩ := hE q hq
    have hR := I.row a2
    exact ⟨0, _, _, LL, EE, LN, lc, ec, V, _, c_L_sealOf l g AD LL EE LN lc ec hlc hec hLL hEE q hq ou v, rm_ok (by decide) (by decide), c_X3_sealOf l g h X V th lc ec (fun i => (LL i).2.2) hlc hec hNN LN (fun q => (EE q).2.2.1) hEN q hq, I, fun _ => congrArg Int32.toInt64 d3.symm⟩

set_option maxHeartbeats 4000000 in
set_option maxRecDepth 100000 in
theorem op_tornBlocks (l : Launch) (hlt : l.stackTraces = false) (g : gT) (AD : Nat → Nat) (h : Nat) (X : Nat → Nat) (LL : Nat → ltT) (EE : Nat → evT) (LN : Nat → Nat) (lc ec : Nat) (V : Nat → Nat → Int32) (th : Int32) (ou : Nat) (v : Int64) (I : Inv LL EE LN lc ec V) (x : Int32) : Op g l AD h X LL EE lc ec V th ou v yL_tornBlocks wsL_tornBlocks { frames := 8, cells := 1, slots := 6, locals := 125 } [.ref (AD 0), .int x, .ref ou] yX3_tornBlocks wsX3_tornBlocks [.ref h, .int x] := by
  obtain ⟨hlc, hec, hLL, hZ0, hC, hE⟩ := id I
  have hEE := I.hEE
  have hNN := I.hNN
  have hEN := I.hEN
  cases hb : inB x ec with
  | false => exact ⟨1, 0, v, LL, EE, LN, lc, ec, V, _, c_L_tornBlocks_x l hlt g AD LL EE LN lc ec hlc hec hLL hEE x hb ou v, rm_ok (by decide) (by decide), c_X3_tornBlocks_1 l g h X V th lc ec hlc hec x hb, I, fun z => absurd z (by decide +kernel)⟩
  | true =>
    obtain ⟨q, hq, rfl⟩ := inB_of hb (by omega)
    obtain ⟨⟨a1, a2, a3, a4⟩, ⟨b1, b2, b3, b4⟩, ⟨d1, d2, d3⟩, ⟨f1, f2⟩, f3, f4⟩ := hE q hq
    have hR := I.row a2
    exact ⟨0, _, _, LL, EE, LN, lc, ec, V, _, c_L_tornBlocks l g AD LL EE LN lc ec hlc hec hLL hEE q hq ou v, rm_ok (by decide) (by decide), c_X3_tornBlocks l g h X V th lc ec (fun i => (LL i).2.2) hlc hec hNN LN (fun q => (EE q).2.2.1) hEN q hq, I, fun _ => congrArg Int32.toInt64 (acF_congr fun u _ => to_eq hR a4 b4 u)⟩

set_option maxHeartbeats 4000000 in
set_option maxRecDepth 100000 in
theorem op_firstTorn (l : Launch) (hlt : l.stackTraces = false) (g : gT) (AD : Nat → Nat) (h : Nat) (X : Nat → Nat) (LL : Nat → ltT) (EE : Nat → evT) (LN : Nat → Nat) (lc ec : Nat) (V : Nat → Nat → Int32) (th : Int32) (ou : Nat) (v : Int64) (I : Inv LL EE LN lc ec V) (x : Int32) : Op g l AD h X LL EE lc ec V th ou v yL_firstTorn wsL_firstTorn { frames := 8, cells := 1, slots := 6, locals := 125 } [.ref (AD 0), .int x, .ref ou] yX3_firstTorn wsX3_firstTorn [.ref h, .int x] := by
  obtain ⟨hlc, hec, hLL, hZ0, hC, hE⟩ := id I
  have hEE := I.hEE
  have hNN := I.hNN
  have hEN := I.hEN
  cases hb : inB x ec with
  | false => exact ⟨1, 0, v, LL, EE, LN, lc, ec, V, _, c_L_firstTorn_x l hlt g AD LL EE LN lc ec hlc hec hLL hEE x hb ou v, rm_ok (by decide) (by decide), c_X3_firstTorn_1 l g h X V th lc ec hlc hec x hb, I, fun z => absurd z (by decide +kernel)⟩
  | true =>
    obtain ⟨q, hq, rfl⟩ := inB_of hb (by omega)
    obtain ⟨⟨a1, a2, a3, a4⟩, ⟨b1, b2, b3, b4⟩, ⟨d1, d2, d3⟩, ⟨f1, f2⟩, f3, f4⟩ := hE q hq
    have hR := I.row a2
    exact ⟨0, _, _, LL, EE, LN, lc, ec, V, _, c_L_firstTorn l g AD LL EE LN lc ec hlc hec hLL hEE q hq ou v, rm_ok (by decide) (by decide), c_X3_firstTorn l g h X V th lc ec (fun i => (LL i).2.2) hlc hec hNN LN (fun q => (EE q).2.2.1) hEN q hq, I, fun _ => congrArg Int32.toInt64 (fsF_congr fun u _ _ => to_eq hR a4 b4 u)⟩

set_option maxHeartbeats 4000000 in
set_option maxRecDepth 100000 in
theorem op_isWhole (l : Launch) (hlt : l.stackTraces = false) (g : gT) (AD : Nat → Nat) (h : Nat) (X : Nat → Nat) (LL : Nat → ltT) (EE : Nat → evT) (LN : Nat → Nat) (lc ec : Nat) (V : Nat → Nat → Int32) (th : Int32) (ou : Nat) (v : Int64) (I : Inv LL EE LN lc ec V) (x : Int32) : Op g l AD h X LL EE lc ec V th ou v yL_isWhole wsL_isWhole { frames := 8, cells := 1, slots := 6, locals := 125 } [.ref (AD 0), .int x, .ref ou] yX3_isWhole wsX3_isWhole [.ref h, .int x] := by
  obtain ⟨hlc, hec, hLL, hZ0, hC, hE⟩ := id I
  have hEE := I.hEE
  have hNN := I.hNN
  have hEN := I.hEN
  cases hb : inB x ec with
  | false => exact ⟨1, _, v, LL, EE, LN, lc, ec, V, _, c_L_isWhole_x l hlt g AD LL EE LN lc ec hlc hec hLL hEE x hb ou v, rm_ok (by decide) (by decide), c_X3_isWhole_1 l g h X V th lc ec hlc hec x hb, I, fun z => absurd z (by decide +kernel)⟩
  | true =>
    obtain ⟨q, hq, rfl⟩ := inB_of hb (by omega)
    obtain ⟨⟨a1, a2, a3, a4⟩, ⟨b1, b2, b3, b4⟩, ⟨d1, d2, d3⟩, ⟨f1, f2⟩, f3, f4⟩ := hE q hq
    have hR := I.row a2
    exact ⟨0, _, _, LL, EE, LN, lc, ec, V, _, c_L_isWhole l g AD LL EE LN lc ec hlc hec hLL hEE q hq ou v, rm_ok (by decide) (by decide), c_X3_isWhole l g h X V th lc ec (fun i => (LL i).2.2) hlc hec hNN LN (fun q => (EE q).2.2.1) hEN q hq, I, fun _ => congrArg (fun b => (bI b).toInt64) (ft_eq hR b2)⟩

set_option maxHeartbeats 4000000 in
set_option maxRecDepth 100000 in
theorem op_changedPlace (l : Launch) (hlt : l.stackTraces = false) (g : gT) (AD : Nat → Nat) (h : Nat) (X : Nat → Nat) (LL : Nat → ltT) (EE : Nat → evT) (LN : Nat → Nat) (lc ec : Nat) (V : Nat → Nat → Int32) (th : Int32) (ou : Nat) (v : Int64) (I : Inv LL EE LN lc ec V) (x : Int32) : Op g l AD h X LL EE lc ec V th ou v yL_changedPlace wsL_changedPlace { frames := 8, cells := 1, slots := 6, locals := 125 } [.ref (AD 0), .int x, .ref ou] yX3_changedPlace wsX3_changedPlace [.ref h, .int x] := by
  obtain ⟨hlc, hec, hLL, hZ0, hC, hE⟩ := id I
  have hEE := I.hEE
  have hNN := I.hNN
  have hEN := I.hEN
  cases hb : inB x ec with
  | false => exact ⟨1, 0, v, LL, EE, LN, lc, ec, V, _, c_L_changedPlace_x l hlt g AD LL EE LN lc ec hlc hec hLL hEE x hb ou v, rm_ok (by decide) (by decide), c_X3_changedPlace_1 l g h X V th lc ec hlc hec x hb, I, fun z => absurd z (by decide +kernel)⟩
  | true =>
    obtain ⟨q, hq, rfl⟩ := inB_of hb (by omega)
    obtain ⟨⟨a1, a2, a3, a4⟩, ⟨b1, b2, b3, b4⟩, ⟨d1, d2, d3⟩, ⟨f1, f2⟩, f3, f4⟩ := hE q hq
    have hR := I.row a2
    have hq40 := hLL (LN q) (by omega)
    have hch : chD LL EE LN q = chM (asP V (fun i => (LL i).2.2) LN q) (EE q).2.2.1 (LL (LN q)).2.2 (V 6 q - smF (rwV V (LN q)) (LL (LN q)).2.2) (V 7 q - wtF (rwV V (LN q)) (LL (LN q)).2.2) (rwV V (LN q)) := ch_D hq40 (I.nat a2) hR (ft_eq hR b2) d1 d2 f1 f2 f3 f4
    exact ⟨0, _, _, LL, EE, LN, lc, ec, V, _, c_L_changedPlace l g AD LL EE LN lc ec hlc hec hLL hEE q hq ou v, rm_ok (by decide) (by decide), c_X3_changedPlace l g h X V th lc ec (fun i => (LL i).2.2) hlc hec hNN LN (fun q => (EE q).2.2.1) hEN q hq, I, fun _ => congrArg Int32.toInt64 hch⟩

set_option maxHeartbeats 4000000 in
set_option maxRecDepth 100000 in
theorem op_changedSign (l : Launch) (hlt : l.stackTraces = false) (g : gT) (AD : Nat → Nat) (h : Nat) (X : Nat → Nat) (LL : Nat → ltT) (EE : Nat → evT) (LN : Nat → Nat) (lc ec : Nat) (V : Nat → Nat → Int32) (th : Int32) (ou : Nat) (v : Int64) (I : Inv LL EE LN lc ec V) (x : Int32) : Op g l AD h X LL EE lc ec V th ou v yL_changedSign wsL_changedSign { frames := 8, cells := 1, slots := 6, locals := 127 } [.ref (AD 0), .int x, .ref ou] yX3_changedSign wsX3_changedSign [.ref h, .int x] := by
  obtain ⟨hlc, hec, hLL, hZ0, hC, hE⟩ := id I
  have hEE := I.hEE
  have hNN := I.hNN
  have hEN := I.hEN
  cases hb : inB x ec with
  | false => exact ⟨1, 0, v, LL, EE, LN, lc, ec, V, _, c_L_changedSign_x l hlt g AD LL EE LN lc ec hlc hec hLL hEE x hb ou v, rm_ok (by decide) (by decide), c_X3_changedSign_1 l g h X V th lc ec hlc hec x hb, I, fun z => absurd z (by decide +kernel)⟩
  | true =>
    obtain ⟨q, hq, rfl⟩ := inB_of hb (by omega)
    obtain ⟨⟨a1, a2, a3, a4⟩, ⟨b1, b2, b3, b4⟩, ⟨d1, d2, d3⟩, ⟨f1, f2⟩, f3, f4⟩ := hE q hq
    have hR := I.row a2
    have hq40 := hLL (LN q) (by omega)
    have hch : chD LL EE LN q = chM (asP V (fun i => (LL i).2.2) LN q) (EE q).2.2.1 (LL (LN q)).2.2 (V 6 q - smF (rwV V (LN q)) (LL (LN q)).2.2) (V 7 q - wtF (rwV V (LN q)) (LL (LN q)).2.2) (rwV V (LN q)) := ch_D hq40 (I.nat a2) hR (ft_eq hR b2) d1 d2 f1 f2 f3 f4
    rcases chD_or LL EE LN q with hc | ⟨j, hj, hc⟩
    · exact ⟨2, 0, v, LL, EE, LN, lc, ec, V, _, c_L_changedSign_s l hlt g AD LL EE LN lc ec hlc hec hLL hEE q hq hc ou v, rm_ok (by decide) (by decide), c_X3_changedSign_2 l g h X V th lc ec (fun i => (LL i).2.2) hlc hec hNN LN (fun q => (EE q).2.2.1) hEN q hq (hch.symm.trans hc), I, fun z => absurd z (by decide +kernel)⟩
    · exact ⟨0, _, _, LL, EE, LN, lc, ec, V, _, c_L_changedSign l g AD LL EE LN lc ec hlc hec hLL hEE q hq j hj hc ou v, rm_ok (by decide) (by decide), c_X3_changedSign l g h X V th lc ec (fun i => (LL i).2.2) hlc hec hNN LN (fun q => (EE q).2.2.1) hEN q hq j hj (hch.symm.trans hc), I, fun _ => congrArg Int32.toInt64 (by rw [hR j hj, smF_congr hR, d1, Int32.sub_eq_add_neg, Int32.sub_eq_add_neg, Int32.add_assoc])⟩
