/-! EQUAL VALUES: the class's functions are the reference's, where signs and counts are the same -/
theorem cntF_congr {f g : Nat → Int32} {x : Int32} : ∀ {n : Nat}, (∀ j, j < n → f j = g j) → cntF f x n = cntF g x n
  | 0, _ => rfl
  | n + 1, h => by rw [cntF, cntF, cntF_congr (n := n) fun j hj => h j (by omega), h n (by omega)]
theorem smF_congr {f g : Nat → Int32} : ∀ {n : Nat}, (∀ j, j < n → f j = g j) → smF f n = smF g n
  | 0, _ => rfl
  | n + 1, h => by rw [smF, smF, smF_congr (n := n) fun j hj => h j (by omega), h n (by omega)]
theorem wtF_congr {f g : Nat → Int32} : ∀ {n : Nat}, (∀ j, j < n → f j = g j) → wtF f n = wtF g n
  | 0, _ => rfl
  | n + 1, h => by rw [wtF, wtF, wtF_congr (n := n) fun j hj => h j (by omega), h n (by omega)]
theorem unF_congr {f g : Nat → Int32} : ∀ {n : Nat}, (∀ j, j < n → f j = g j) → unF f n = unF g n
  | 0, _ => rfl
  | n + 1, h => by
    have e : unP f n = unP g n := by unfold unP unC; rw [h n (by omega)]
    rw [unF, unF, unF_congr (n := n) fun j hj => h j (by omega), e]
theorem wnF_congr {f g : Nat → Int32} {a : Nat} : ∀ {t : Nat}, (∀ j, j < t → f (a + j) = g (a + j)) → wnF f a t = wnF g a t
  | 0, _ => rfl
  | t + 1, h => by rw [wnF, wnF, wnF_congr (t := t) fun j hj => h j (by omega), h t (by omega)]
theorem bspF_congr {f g : Nat → Int32} {a : Nat} : ∀ {t : Nat}, (∀ j, j < t → f (a + j) = g (a + j)) → bspF f a t = bspF g a t
  | 0, _ => rfl
  | t + 1, h => by rw [bspF, bspF, bspF_congr (t := t) fun j hj => h j (by omega), h t (by omega)]
theorem blF_congr {f g : Nat → Int32} {n b : Nat} (h : ∀ j, j < n → f j = g j) : blF f n b = blF g n b := by
  unfold blF
  rw [bspF_congr fun j hj => h _ (by unfold blN at hj; omega)]
theorem eqR_congr {f f2 h h2 : Nat → Int32} {a b : Nat} : ∀ {n : Nat}, (∀ j, j < n → f (a + j) = f2 (a + j)) → (∀ j, j < n → h (b + j) = h2 (b + j)) → eqR f a h b n = eqR f2 a h2 b n
  | 0, _, _ => rfl
  | n + 1, h1, h3 => by rw [eqR, eqR, eqR_congr (n := n) (fun j hj => h1 j (by omega)) (fun j hj => h3 j (by omega)), h1 n (by omega), h3 n (by omega)]
theorem fsF_congr {P Q : Nat → Bool} : ∀ {r i : Nat}, (∀ j, i ≤ j → j < i + r → P j = Q j) → fsF P r i = fsF Q r i
  | 0, _, _ => rfl
  | r + 1, i, h => by rw [fsF, fsF, h i (Nat.le_refl i) (by omega), fsF_congr (r := r) fun j h1 h2 => h j (by omega) (by omega)]
theorem acF_congr {P Q : Nat → Bool} {x : Int32} : ∀ {t : Nat}, (∀ j, j < t → P j = Q j) → acF P x t = acF Q x t
  | 0, _ => rfl
  | t + 1, h => by rw [acF, acF, acF_congr (t := t) fun j hj => h j (by omega), h t (by omega)]
theorem paP_congr {f g : Nat → Int32} {t a b n : Nat} {fl : Bool} (h : ∀ j, j < n → f j = g j) (ha : a + t ≤ n) (hb : b + t ≤ n) : paP f t fl a b = paP g t fl a b := by
  unfold paP
  rw [wnF_congr (f := f) (g := g) (a := a) (t := t) fun j hj => h _ (by omega), wnF_congr (f := f) (g := g) (a := b) (t := t) fun j hj => h _ (by omega), eqR_congr (f := f) (f2 := g) (h := f) (h2 := g) (a := b) (b := a) (n := t) (fun j hj => h _ (by omega)) (fun j hj => h _ (by omega))]
/-- pairs of windows -/
theorem ss_eq {f g : Nat → Int32} {t n : Nat} {fl : Bool} (ht : 1 ≤ t) (h : ∀ j, j < n → f j = g j) : ssV f t fl n = prM (paP g t fl) (n + 1 - t) := by
  unfold ssV
  by_cases q : t ≤ n
  · rw [if_pos q, pr_same, show n + 1 - t = n - t + 1 by omega]
    refine prM_congr fun i j hj hi => ?_
    rw [pc_pa]
    exact paP_congr h (by omega) (by omega)
  · rw [if_neg q, show n + 1 - t = 0 by omega]
    rfl
/-- doubles -/
theorem db_eq {LL : Nat → ltT} {r : Nat → Nat → Int32} {lc : Nat} (h : ∀ i, i < lc → ∀ j, j < (LL i).2.2 → (LL i).1 j = r i j) : prC (dbD LL) lc lc = prM (dbP r (fun i => (LL i).2.2)) lc := by
  rw [pr_same]
  refine prM_congr fun i j hj hi => ?_
  unfold dbD dbP
  rw [dgF_congr (h j hj), dgF_congr (h i (by omega))]
  by_cases q : (LL i).2.2 = (LL j).2.2
  · rw [decide_eq_true q, decide_eq_true q.symm, eqR_symm, eqR_congr (f := (LL j).1) (f2 := r j) (h := (LL i).1) (h2 := r i) (a := 0) (b := 0) (fun k hk => by rw [Nat.zero_add]; exact h j hj k (by omega)) (fun k hk => by rw [Nat.zero_add]; exact h i (by omega) k (by omega))]
  · rw [decide_eq_false q, decide_eq_false (p := (LL j).2.2 = (LL i).2.2) (fun z => q z.symm)]
    rfl
theorem ft_eq {LL : Nat → ltT} {EE : Nat → evT} {LN : Nat → Nat} {V : Nat → Nat → Int32} {q : Nat} (h : ∀ j, j < (LL (LN q)).2.2 → (LL (LN q)).1 j = rwV V (LN q) j) (h3 : V 3 q = (EE q).2.1) : ftD LL EE LN q = asP V (fun i => (LL i).2.2) LN q := by
  unfold ftD asP
  rw [dgF_congr h, h3]
theorem to_eq {LL : Nat → ltT} {EE : Nat → evT} {LN : Nat → Nat} {V : Nat → Nat → Int32} {q : Nat} (h : ∀ j, j < (LL (LN q)).2.2 → (LL (LN q)).1 j = rwV V (LN q) j) (hb : (EE q).2.2.2.1 = ((EE q).2.2.1 + 4) / 5) (h5 : ∀ u, u < (EE q).2.2.2.1 → V 5 (8 * q + u) = (EE q).2.2.2.2.2.2.2 u) (u : Nat) : toD LL EE LN q u = toP V (fun i => (LL i).2.2) LN (fun q => (EE q).2.2.1) q u := by
  unfold toD toC toP
  rw [← hb, blF_congr h]
  by_cases q1 : u < (EE q).2.2.2.1
  · rw [h5 u q1]
  · by_cases q2 : u < ((LL (LN q)).2.2 + 4) / 5
    · rw [decide_eq_false q1, decide_eq_true q2]
      rfl
    · rw [decide_eq_false q2]
      simp
theorem ls_eq {EE : Nat → evT} {S : Nat → Int32} {ec : Nat} (h : ∀ q, q < ec → S q = (EE q).2.2.2.2.2.2.1) : lsD EE ec = lsV S ec := by
  unfold lsD lsV
  by_cases q : ec = 0
  · rw [if_pos q, if_pos q]
  · rw [if_neg q, if_neg q, h _ (by omega)]
theorem fo_eq {f g f2 g2 : Nat → Int32} {n n2 : Nat} (h : ∀ j, j < n → f j = g j) (h2 : ∀ j, j < n2 → f2 j = g2 j) : fsF (fun j => eqR f j f2 0 n2) (n + 1 - n2) 0 = fsF (fun j => eqR g j g2 0 n2) (n + 1 - n2) 0 := by
  refine fsF_congr fun j h1 h3 => ?_
  exact eqR_congr (fun k hk => h _ (by omega)) (fun k hk => by rw [Nat.zero_add]; exact h2 _ hk)
/-! the place of a change: by looking at each place, and by dividing -/
theorem bm_ok {x : Int} (h1 : -2147483648 ≤ x) (h2 : x < 2147483648) : x.bmod (2 ^ 32) = x := by
  rw [Int.bmod_def]
  split <;> omega
theorem fsF_none {P : Nat → Bool} : ∀ {r i : Nat}, (∀ j, i ≤ j → j < i + r → P j = false) → fsF P r i = -1
  | 0, _, _ => rfl
  | r + 1, i, h => by rw [fsF, if_neg (by rw [h i (Nat.le_refl i) (by omega)]; decide)]; exact fsF_none fun j h1 h2 => h j (by omega) (by omega)
theorem fsF_one {P : Nat → Bool} {k : Nat} : ∀ {r i : Nat}, i ≤ k → k < i + r → P k = true → (∀ j, i ≤ j → j < k → P j = false) → fsF P r i = nI k
  | 0, i, h1, h2, _, _ => by omega
  | r + 1, i, h1, h2, h3, h4 => by
    by_cases q : i = k
    · subst q
      rw [fsF, if_pos h3]
    · rw [fsF, if_neg (by rw [h4 i (Nat.le_refl i) (by omega)]; decide)]
      exact fsF_one (by omega) (by omega) h3 fun j h1 h2 => h4 j (by omega) h2
theorem ch_mul {lo : Int32} {j : Nat} (hL : -1300 ≤ lo.toInt ∧ lo.toInt ≤ 1300) (hj : j < 40) : (lo * nI (j + 1)).toInt = lo.toInt * ((j : Int) + 1) := by
  have h0 : (0 : Int) ≤ (j : Int) + 1 := by omega
  have h1 := Int.mul_le_mul_of_nonneg_right hL.2 h0
  have h2 := Int.mul_le_mul_of_nonneg_right hL.1 h0
  rw [Int32.toInt_mul, nI_toInt (by omega)]
  have e : ((j + 1 : Nat) : Int) = (j : Int) + 1 := by omega
  rw [e]
  exact bm_ok (by omega) (by omega)
theorem ch_eq {fit : Bool} {sc n : Nat} {lo lw : Int32} {f : Nat → Int32} (hn : n ≤ 40) (hL : -1300 ≤ lo.toInt ∧ lo.toInt ≤ 1300) (_ : -100000 ≤ lw.toInt ∧ lw.toInt ≤ 100000) : chC fit sc n lo lw f = chM fit sc n lo lw f := by
  cases hf : fit with
  | true => rw [chC_a (Or.inl rfl), chM_a (Or.inl rfl)]
  | false =>
    by_cases h2' : ¬ n = sc
    · rw [chC_a (Or.inr (Or.inl h2')), chM_a (Or.inr (Or.inl fun z => h2' z.symm))]
    have h2 : n = sc := Decidable.byContradiction h2'
    by_cases h3 : lo = 0
    · rw [chC_a (Or.inr (Or.inr h3)), chM_a (Or.inr (Or.inr (Or.inl h3)))]
    have hL0 : lo.toInt ≠ 0 := fun z => h3 (Int32.toInt_inj.mp (z.trans Int32.toInt_zero.symm))
    rw [chC_go rfl h2 h3]
    have key : ∀ j, j < n → lo * nI (j + 1) = lw → lo.toInt * ((j : Int) + 1) = lw.toInt := fun j hj e => by rw [← ch_mul hL (by omega), e]
    by_cases hd : ∃ j, j < n ∧ lo * nI (j + 1) = lw
    · obtain ⟨j, hj, e⟩ := hd
      have e1 := key j hj e
      have hq : lw / lo = nI (j + 1) := by
        apply Int32.toInt_inj.mp
        rw [Int32.toInt_div, nI_toInt (by omega), ← e1, Int.mul_tdiv_cancel_left _ hL0]
        have : ((j + 1 : Nat) : Int) = (j : Int) + 1 := by omega
        rw [this]
        exact bm_ok (by omega) (by omega)
      have h4 : rm lw lo = 0 := by
        unfold rm
        rw [hq, Int32.mul_comm, e, Int32.sub_self]
      have hq1 : lw / lo - 1 = nI j := by rw [hq, nI_pred]
      have others : ∀ i, i < n → ¬ i = j → chP lo lw f i = false := fun i hi hne => chP_no (Or.inr (Or.inr fun z => hne (by
        have e2 := key i hi z
        rw [← e1] at e2
        have := Int.eq_of_mul_eq_mul_left hL0 e2
        omega)))
      by_cases hr : (decide (0 ≤ f j + lo) && decide (f j + lo ≤ 30)) = true
      · rw [chM_d rfl h2.symm h3 h4 hj hn hq1 hr, hq1]
        rw [Bool.and_eq_true, decide_eq_true_eq, decide_eq_true_eq] at hr
        exact fsF_one (Nat.zero_le j) (by omega) (chP_yes (Int32.not_lt.mpr hr.1) (Int32.not_lt.mpr hr.2) e) fun i _ hi => others i (by omega) (by omega)
      · have hr' : (decide (0 ≤ f j + lo) && decide (f j + lo ≤ 30)) = false := by simpa using hr
        rw [chM_c rfl h2.symm h3 h4 hq1 hj hn hr']
        refine fsF_none fun i _ hi => ?_
        by_cases hij : i = j
        · subst hij
          refine chP_no ?_
          by_cases a1 : f i + lo < 0
          · exact Or.inl a1
          · refine Or.inr (Or.inl ?_)
            rw [decide_eq_true (Int32.not_lt.mp a1), Bool.true_and, decide_eq_false_iff_not] at hr'
            exact Int32.not_le.mp hr'
        · exact others i (by omega) hij
    · have hnone : fsF (chP lo lw f) n 0 = -1 := fsF_none fun i _ hi => chP_no (Or.inr (Or.inr fun z => hd ⟨i, by omega, z⟩))
      rw [hnone]
      by_cases h4 : rm lw lo = 0
      · cases hb : inB (lw / lo - 1) n with
        | false => rw [chM_b rfl h2.symm h3 h4 hb]
        | true =>
          obtain ⟨j, hj, e⟩ := inB_of hb (by omega)
          refine absurd ⟨j, hj, ?_⟩ hd
          have hq : lw / lo = nI (j + 1) := by
            have : lw / lo - 1 + 1 = nI j + 1 := by rw [e]
            rw [Int32.sub_add_cancel, nI_1] at this
            exact this
          unfold rm at h4
          rw [hq] at h4
          have : lw - nI (j + 1) * lo + nI (j + 1) * lo = 0 + nI (j + 1) * lo := by rw [h4]
          rw [Int32.sub_add_cancel, Int32.zero_add] at this
          rw [this, Int32.mul_comm]
      · rw [chM_a (Or.inr (Or.inr (Or.inr h4)))]
