/-! THE INVARIANT: the class's desk and the law's desk by hand -/
theorem msk_nn (v : Int32) : ¬ (v &&& 2147483647) < 0 := by
  intro h
  rw [Int32.lt_iff_toInt_lt] at h
  have h2 : (v &&& 2147483647).toBitVec.msb = false := by
    rw [Int32.toBitVec_and, BitVec.msb_and]
    have : (2147483647 : Int32).toBitVec.msb = false := by decide +kernel
    rw [this, Bool.and_false]
  rw [BitVec.msb_eq_toInt] at h2
  exact absurd h (of_decide_eq_false h2)
theorem blw_lt (v : Int32) {k : Nat} (hk : 0 < k) (hk2 : k < 1000) : ∃ r, r < k ∧ rm (v &&& 2147483647) (nI k) = nI r := by
  obtain ⟨j, hj, e⟩ := nI_of (msk_nn v)
  exact ⟨j % k, Nat.mod_lt _ hk, by rw [e, rm_nat hj (by omega)]⟩
def Iv (LL : Nat → ltT) (EE : Nat → evT) (LN : Nat → Nat) (TT : Nat → (Nat → Int32) × Nat) (lc ec : Nat) : Prop :=
  lc ≤ 12 ∧ ec ≤ 24 ∧ (∀ i, i < 12 → (LL i).2.2 ≤ 40) ∧ (∀ i, lc ≤ i → i < 12 → (LL i).2.2 = 0) ∧
  (∀ i, i < lc → ∀ j, j < (LL i).2.2 → ∃ u : Nat, u ≤ 30 ∧ (LL i).1 j = nI u) ∧
  ∀ q, q < ec → ((EE q).1 = nI (LN q) ∧ LN q < lc ∧ (EE q).2.2.1 = (TT q).2 ∧ (TT q).2 ≤ 40 ∧ (EE q).2.2.2.1 = ((TT q).2 + 4) / 5) ∧
    ((EE q).2.1 = dgF (TT q).1 (TT q).2 ∧ (EE q).2.2.2.2.1 = smF (TT q).1 (TT q).2 ∧ (EE q).2.2.2.2.2.1 = wtF (TT q).1 (TT q).2 ∧ (EE q).2.2.2.2.2.2.1 = slF (lsD EE q) (EE q).2.1) ∧
    ∀ j, j < (TT q).2 → ∃ u : Nat, u ≤ 30 ∧ (TT q).1 j = nI u
def smN (F : Nat → Nat) : Nat → Nat
  | 0 => 0
  | k + 1 => smN F k + F k
def wtN (F : Nat → Nat) : Nat → Nat
  | 0 => 0
  | k + 1 => wtN F k + F k * (k + 1)
theorem sm_nat {f : Nat → Int32} {F : Nat → Nat} : ∀ {n : Nat}, (∀ j, j < n → f j = nI (F j) ∧ F j ≤ 30) → smF f n = nI (smN F n) ∧ smN F n ≤ 30 * n
  | 0, _ => ⟨by show (0 : Int32) = nI 0; decide +kernel, Nat.le_refl _⟩
  | n + 1, h => by
    obtain ⟨h1, h2⟩ := sm_nat (f := f) (F := F) (n := n) fun j hj => h j (by omega)
    obtain ⟨h3, h4⟩ := h n (by omega)
    exact ⟨by rw [smF, smN, h1, h3, nI_add], by rw [smN]; omega⟩
theorem wt_natS {f : Nat → Int32} {F : Nat → Nat} : ∀ {n : Nat}, n ≤ 40 → (∀ j, j < n → f j = nI (F j) ∧ F j ≤ 30) → wtF f n = nI (wtN F n) ∧ wtN F n ≤ 1200 * n
  | 0, _, _ => ⟨by show (0 : Int32) = nI 0; decide +kernel, Nat.le_refl _⟩
  | n + 1, hn, h => by
    obtain ⟨h1, h2⟩ := wt_natS (f := f) (F := F) (n := n) (by omega) fun j hj => h j (by omega)
    obtain ⟨h3, h4⟩ := h n (by omega)
    have h5 : F n * (n + 1) ≤ 30 * 40 := Nat.mul_le_mul h4 hn
    exact ⟨by rw [wtF, wtN, h1, h3, pk_mul, nI_add], by rw [wtN]; omega⟩
theorem nat_of {f : Nat → Int32} {n : Nat} (h : ∀ j, j < n → ∃ u : Nat, u ≤ 30 ∧ f j = nI u) : ∀ j, j < n → f j = nI (f j).toNatClampNeg ∧ (f j).toNatClampNeg ≤ 30 := fun j hj => by
  obtain ⟨u, hu, e⟩ := h j hj
  rw [e, nI_clamp (by omega)]
  exact ⟨rfl, hu⟩
/-- digests as numbers -/
theorem dg_ok {f : Nat → Int32} {n : Nat} (h : ∀ j, j < n → ∃ u : Nat, u ≤ 30 ∧ f j = nI u) : ∃ d, d < 8191 ∧ dgF f n = nI d := ⟨_, dgN_lt _ _, dg_nat (nat_of h)⟩
theorem sl_ok {p x : Nat} (hp : p < 65521) (hx : x < 8191) : slF (nI p) (nI x) = nI ((53 * p + x) % 65521) := by
  have e1 : (53 : Int32) = nI 53 := by decide +kernel
  have e2 : (65521 : Int32) = nI 65521 := by decide +kernel
  unfold slF
  rw [e1, e2, pk_mul, nI_add, rm_nat (by omega) (by omega), Nat.mul_comm p 53]
theorem toJ {n : Nat} (h : n < 2 ^ 31) : (nI n).toInt64.toInt = n := by
  rw [Int32.toInt_toInt64, nI_toInt h]
theorem slJ_ok {p x : Nat} (hp : p < 65521) (hx : x < 8191) : slJ (nI p) (nI x) = nI ((53 * p + x) % 65521) := by
  unfold slJ
  apply Int32.toInt_inj.mp
  rw [nI_toInt (by omega), Int64.toInt_toInt32]
  have a1 : (53 * (nI p).toInt64 + (nI x).toInt64 : Int64).toInt = 53 * (p : Int) + x := by
    rw [Int64.toInt_add, Int64.toInt_mul, toJ (by omega), toJ (by omega)]
    have : (53 : Int64).toInt = 53 := by decide +kernel
    rw [this, Int.bmod_eq_of_le (n := 53 * (p : Int)) (by omega) (by omega), Int.bmod_eq_of_le (by omega) (by omega)]
  have a2 : ((53 * (nI p).toInt64 + (nI x).toInt64 : Int64) / 65521).toInt = (53 * (p : Int) + x) / 65521 := by
    rw [Int64.toInt_div, a1]
    have : (65521 : Int64).toInt = 65521 := by decide +kernel
    rw [this, Int.tdiv_eq_ediv_of_nonneg (by omega), Int.bmod_eq_of_le (by omega) (by omega)]
  have a3 : ((53 * (nI p).toInt64 + (nI x).toInt64 : Int64) - (53 * (nI p).toInt64 + (nI x).toInt64) / 65521 * 65521).toInt = (53 * (p : Int) + x) % 65521 := by
    rw [Int64.toInt_sub, Int64.toInt_mul, a1, a2]
    have : (65521 : Int64).toInt = 65521 := by decide +kernel
    rw [this, Int.bmod_eq_of_le (n := (53 * (p : Int) + x) / 65521 * 65521) (by omega) (by omega), Int.bmod_eq_of_le (by omega) (by omega)]
    omega
  rw [a3, Int.bmod_eq_of_le (by omega) (by omega)]
  omega
section IV
variable {LL LL2 : Nat → ltT} {EE : Nat → evT} {LN : Nat → Nat} {TT : Nat → (Nat → Int32) × Nat} {lc ec : Nat}
theorem Iv.hEE (I : Iv LL EE LN TT lc ec) : ∀ q, q < ec → (EE q).1 = nI (LN q) ∧ LN q < lc ∧ (EE q).2.2.1 ≤ 40 ∧ (EE q).2.2.2.1 ≤ 8 := fun q hq => by
  obtain ⟨⟨a1, a2, a3, a4, a5⟩, -⟩ := I.2.2.2.2.2 q hq
  exact ⟨a1, a2, by omega, by omega⟩
theorem Iv.hLL (I : Iv LL EE LN TT lc ec) : ∀ i, i < 12 → (LL i).2.2 ≤ 40 := I.2.2.1
theorem Iv.le (I : Iv LL EE LN TT lc ec) {k : Nat} (hk : k < lc) : (LL k).2.2 ≤ 40 := I.2.2.1 k (Nat.lt_of_lt_of_le hk I.1)
theorem Iv.sg (I : Iv LL EE LN TT lc ec) {k : Nat} (hk : k < lc) : ∀ j, j < (LL k).2.2 → ∃ u : Nat, u ≤ 30 ∧ (LL k).1 j = nI u := I.2.2.2.2.1 k hk
theorem Iv.same (I : Iv LL EE LN TT lc ec) (h : ∀ i, (LL2 i).1 = (LL i).1 ∧ (LL2 i).2.2 = (LL i).2.2) : Iv LL2 EE LN TT lc ec :=
  ⟨I.1, I.2.1, fun i hi => by rw [(h i).2]; exact I.2.2.1 i hi, fun i h1 h2 => by rw [(h i).2]; exact I.2.2.2.1 i h1 h2, fun i hi => by rw [(h i).1, (h i).2]; exact I.2.2.2.2.1 i hi, I.2.2.2.2.2⟩
theorem Iv.add (I : Iv LL EE LN TT lc ec) (h : lc < 12) : Iv LL EE LN TT (lc + 1) ec := by
  obtain ⟨a, b, c, d, e, f⟩ := I
  refine ⟨by omega, b, c, fun i h1 h2 => d i (by omega) h2, fun i hi j hj => ?_, fun q hq => ?_⟩
  · by_cases h3 : i < lc
    · exact e i h3 j hj
    · rw [d i (by omega) (by omega)] at hj; omega
  · obtain ⟨⟨a1, a2, a3⟩, a4⟩ := f q hq
    exact ⟨⟨a1, by omega, a3⟩, a4⟩
/-- one letter's signs are others now; or one letter more -/
theorem Iv.set (I : Iv LL EE LN TT lc ec) {k n lc2 : Nat} {f w : Nat → Int32} (h1 : lc ≤ lc2) (h2 : lc2 ≤ 12) (hk : k < lc2) (h3 : lc2 = lc ∨ (lc2 = lc + 1 ∧ k = lc)) (hn : n ≤ 40) (hf : ∀ j, j < n → ∃ u : Nat, u ≤ 30 ∧ f j = nI u) : Iv (fup LL k ((f, w, n) : ltT)) EE LN TT lc2 ec := by
  obtain ⟨a, b, c, d, e, ff⟩ := I
  refine ⟨h2, b, fun i hi => ?_, fun i h4 h5 => ?_, fun i hi => ?_, fun q hq => ?_⟩
  · by_cases hj : i = k
    · subst hj; rw [fup_at]; exact hn
    · rw [fup_ne _ _ hj]; exact c i hi
  · rw [fup_ne _ _ (by omega)]; exact d i (by omega) h5
  · by_cases hj : i = k
    · subst hj; rw [fup_at]; exact hf
    · rw [fup_ne _ _ hj]; exact e i (by omega)
  · obtain ⟨⟨a1, a2, a3⟩, a4⟩ := ff q hq
    exact ⟨⟨a1, by omega, a3⟩, a4⟩
theorem lsD_fup {e : evT} {q : Nat} (h : q ≤ ec) : lsD (fup EE ec e) q = lsD EE q := by
  unfold lsD
  by_cases h0 : q = 0
  · rw [if_pos h0, if_pos h0]
  · rw [if_neg h0, if_neg h0, fup_ne _ _ (by omega)]
theorem Iv.seal (I : Iv LL EE LN TT lc ec) {k : Nat} (hk : k < lc) (hec : ec < 24) {e : evT} (h1 : e.1 = nI k) (h2 : e.2.1 = dgF (LL k).1 (LL k).2.2) (h3 : e.2.2.1 = (LL k).2.2) (h4 : e.2.2.2.1 = ((LL k).2.2 + 4) / 5) (h5 : e.2.2.2.2.1 = smF (LL k).1 (LL k).2.2) (h6 : e.2.2.2.2.2.1 = wtF (LL k).1 (LL k).2.2) (h7 : e.2.2.2.2.2.2.1 = slF (lsD EE ec) (dgF (LL k).1 (LL k).2.2)) : Iv LL (fup EE ec e) (fup LN ec k) (fup TT ec ((LL k).1, (LL k).2.2)) lc (ec + 1) := by
  have hle := I.le hk
  have hsg := I.sg hk
  obtain ⟨a, b, c, d, ee, f⟩ := I
  refine ⟨a, by omega, c, d, ee, fun q hq => ?_⟩
  by_cases hj : q = ec
  · subst hj
    rw [fup_at, fup_at, fup_at, lsD_fup (Nat.le_refl _)]
    exact ⟨⟨h1, hk, h3, hle, h4⟩, ⟨h2, h5, h6, by rw [h7, h2]⟩, hsg⟩
  · rw [fup_ne _ _ hj, fup_ne _ _ hj, fup_ne _ _ hj, lsD_fup (by omega)]
    exact f q (by omega)
theorem Iv.unseal (I : Iv LL EE LN TT lc ec) : Iv LL EE LN TT lc (ec - 1) := by
  obtain ⟨a, b, c, d, ee, f⟩ := I
  exact ⟨a, by omega, c, d, ee, fun q hq => f q (by omega)⟩
/-- seals as numbers -/
theorem Iv.sl (I : Iv LL EE LN TT lc ec) : ∀ q, q ≤ ec → ∃ u, u < 65521 ∧ lsD EE q = nI u := by
  intro q
  induction q with
  | zero => intro _; exact ⟨1, by decide, by unfold lsD; rw [if_pos rfl]; decide +kernel⟩
  | succ q ih =>
    intro hq
    obtain ⟨u, hu, e⟩ := ih (by omega)
    obtain ⟨⟨a1, a2, a3, a4, a5⟩, ⟨b1, b2, b3, b4⟩, c⟩ := I.2.2.2.2.2 q (by omega)
    obtain ⟨d, hd, e2⟩ := dg_ok c
    refine ⟨(53 * u + d) % 65521, Nat.mod_lt _ (by decide), ?_⟩
    unfold lsD
    rw [if_neg (by omega), Nat.add_sub_cancel, b4, e, b1, e2, sl_ok hu hd]
theorem Iv.slE (I : Iv LL EE LN TT lc ec) {k : Nat} (hk : k < lc) : slJ (lsD EE ec) (dgF (LL k).1 (LL k).2.2) = slF (lsD EE ec) (dgF (LL k).1 (LL k).2.2) := by
  obtain ⟨u, hu, e⟩ := I.sl ec (Nat.le_refl _)
  obtain ⟨d, hd, e2⟩ := dg_ok (I.sg hk)
  rw [e, e2, slJ_ok hu hd, sl_ok hu hd]
end IV
/-- all of it, over a heap -/
def JW (g : gT) (B : Nat) (AD : Nat → Nat) (so : Nat) (LL : Nat → ltT) (EE : Nat → evT) (LN : Nat → Nat) (TT : Nat → (Nat → Int32) × Nat) (lc ec la ea : Nat) (ra xa ta : Nat → Nat) (H : Heap) : Prop :=
  Iv LL EE LN TT lc ec ∧ va_P (gD g) vwCl (wsD g AD LL EE lc ec) H ∧ SW g B so la ea ra xa ta LL EE TT lc ec H
/-- where the two desks lie -/
def JD (B0 B : Nat) (AD : Nat → Nat) : Prop := (∀ j k, j < 87 → k < 87 → AD j = AD k → j = k) ∧ (∀ k, k < 87 → B0 ≤ AD k ∧ AD k < B) ∧ B0 ≤ B
section JWS
variable {g : gT} {B0 B so lc ec la ea : Nat} {AD : Nat → Nat} {LL LL2 : Nat → ltT} {EE EE2 : Nat → evT} {LN : Nat → Nat} {TT : Nat → (Nat → Int32) × Nat} {ra xa ta : Nat → Nat} {H H1 : Heap} {A : Nat → Prop}
theorem JD.D (h : JD B0 B AD) : va_D (fun _ => True) (wsD g AD LL EE lc ec) := dk_D h.1 (fun _ _ => trivial)
theorem JD.wA (h : JD B0 B AD) {q : Nat} (hq : wA (wsD g AD LL EE lc ec) q) : B0 ≤ q ∧ q < B := by
  obtain ⟨k, e, hk⟩ := hq
  obtain ⟨h1, h2⟩ := wsD_inv hk
  have e1 : q = AD k := congrArg Prod.fst h2
  rw [e1]
  exact h.2.1 k h1
theorem dk_kept (hP : va_P (gD g) vwCl (wsD g AD LL EE lc ec) H) (hC : CH A H H1) (hN : ∀ k, k < 87 → ¬ A (AD k)) : va_P (gD g) vwCl (wsD g AD LL EE lc ec) H1 := hC.keep hP fun k q hq => by
  obtain ⟨h1, rfl⟩ := wsD_inv hq
  exact hN k h1
theorem JW.keepN (h : JW g B AD so LL EE LN TT lc ec la ea ra xa ta H) (hC : CH nil_ H H1) : JW g B AD so LL EE LN TT lc ec la ea ra xa ta H1 := ⟨h.1, dk_kept h.2.1 hC (fun _ _ z => z), h.2.2.keepN hC⟩
end JWS
