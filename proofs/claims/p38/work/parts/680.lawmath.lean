/-! THE LAW: what its checks rest on -/
theorem fsF_sp {P : Nat → Bool} : ∀ r i, (fsF P r i = -1 ∧ ∀ j, i ≤ j → j < i + r → P j = false) ∨ ∃ j, i ≤ j ∧ j < i + r ∧ fsF P r i = nI j ∧ P j = true ∧ ∀ x, i ≤ x → x < j → P x = false
  | 0, _ => Or.inl ⟨rfl, fun j h1 h2 => by omega⟩
  | r + 1, i => by
    by_cases q : P i = true
    · exact Or.inr ⟨i, Nat.le_refl i, by omega, by rw [fsF, if_pos q], q, fun x h1 h2 => by omega⟩
    · have q0 : P i = false := by cases h : P i with
        | false => rfl
        | true => exact absurd h q
      rw [fsF, if_neg q]
      rcases fsF_sp (P := P) r (i + 1) with ⟨h, h2⟩ | ⟨j, h1, h2, h3, h4, h5⟩
      · exact Or.inl ⟨h, fun j h3 h4 => by
          by_cases hj : j = i
          · subst hj; exact q0
          · exact h2 j (by omega) (by omega)⟩
      · exact Or.inr ⟨j, by omega, by omega, h3, h4, fun x hx1 hx2 => by
          by_cases hj : x = i
          · subst hj; exact q0
          · exact h5 x (by omega) (by omega)⟩
def cnN (f : Nat → Int32) (x : Int32) : Nat → Nat
  | 0 => 0
  | k + 1 => if f k = x then cnN f x k + 1 else cnN f x k
theorem cn_nat (f : Nat → Int32) (x : Int32) : ∀ n, cntF f x n = nI (cnN f x n)
  | 0 => by show (0 : Int32) = nI 0; decide +kernel
  | n + 1 => by
    rw [cntF, cnN, cn_nat f x n]
    by_cases h : f n = x
    · rw [if_pos h, if_pos h, nI_1]
    · rw [if_neg h, if_neg h]
theorem cn_le (f : Nat → Int32) (x : Int32) : ∀ n, cnN f x n ≤ n
  | 0 => Nat.le_refl _
  | n + 1 => by
    have := cn_le f x n
    rw [cnN]
    by_cases h : f n = x
    · rw [if_pos h]; omega
    · rw [if_neg h]; omega
theorem cn_all (f : Nat → Int32) (x : Int32) : ∀ n, cnN f x n = n ↔ ∀ j, j < n → f j = x
  | 0 => ⟨fun _ j hj => absurd hj (Nat.not_lt_zero j), fun _ => rfl⟩
  | n + 1 => by
    have h0 := cn_all f x n
    have h1 := cn_le f x n
    rw [cnN]
    by_cases h : f n = x
    · rw [if_pos h]
      refine ⟨fun h2 j hj => ?_, fun h2 => ?_⟩
      · by_cases hj2 : j = n
        · subst hj2; exact h
        · exact h0.mp (by omega) j (by omega)
      · have := h0.mpr fun j hj => h2 j (by omega)
        omega
    · rw [if_neg h]
      refine ⟨fun h2 => by omega, fun h2 => absurd (h2 n (Nat.lt_succ_self n)) h⟩
def unN (f : Nat → Int32) : Nat → Nat
  | 0 => 0
  | k + 1 => if unP f k then unN f k + 1 else unN f k
theorem un_nat (f : Nat → Int32) : ∀ n, unF f n = nI (unN f n)
  | 0 => by show (0 : Int32) = nI 0; decide +kernel
  | n + 1 => by
    rw [unF, unN, un_nat f n]
    by_cases h : unP f n = true
    · rw [if_pos h, if_pos h, nI_1]
    · rw [if_neg h, if_neg h]
theorem un_le (f : Nat → Int32) : ∀ n, unN f n + cnN f 27 n ≤ n
  | 0 => Nat.le_refl _
  | n + 1 => by
    have := un_le f n
    rw [unN, cnN]
    by_cases h : unP f n = true
    · have h2 : ¬ f n = 27 := by
        unfold unP at h
        rw [Bool.and_eq_true, decide_eq_true_eq] at h
        exact h.1
      rw [if_pos h, if_neg h2]; omega
    · rw [if_neg h]
      by_cases h2 : f n = 27
      · rw [if_pos h2]; omega
      · rw [if_neg h2]; omega
theorem ct_mono {P Q : Nat → Bool} (h : ∀ j, P j = true → Q j = true) : ∀ t, ctN P t ≤ ctN Q t
  | 0 => Nat.le_refl _
  | t + 1 => by
    have := ct_mono h t
    rw [ctN, ctN]
    by_cases hp : P t = true
    · rw [if_pos hp, if_pos (h t hp)]; omega
    · rw [if_neg hp]
      by_cases hq : Q t = true
      · rw [if_pos hq]; omega
      · rw [if_neg hq]; exact this
theorem ct_le (P : Nat → Bool) : ∀ t, ctN P t ≤ t
  | 0 => Nat.le_refl _
  | t + 1 => by
    have := ct_le P t
    rw [ctN]
    by_cases hp : P t = true
    · rw [if_pos hp]; omega
    · rw [if_neg hp]; omega
theorem ps_mono {P Q : Nat → Nat → Bool} (h : ∀ i j, P i j = true → Q i j = true) : ∀ m, psM P m ≤ psM Q m
  | 0 => Nat.le_refl _
  | m + 1 => by
    have := ps_mono h m
    have h2 := ct_mono (P := fun j => P j m) (Q := fun j => Q j m) (fun j hj => h j m hj) m
    rw [psM, psM]
    omega
theorem ps_le (P : Nat → Nat → Bool) : ∀ m, psM P m ≤ m * 41 ∨ 41 < m
  | 0 => Or.inl (Nat.le_refl _)
  | m + 1 => by
    have h2 := ct_le (fun j => P j m) m
    rw [psM]
    rcases ps_le P m with h | h
    · omega
    · omega
theorem pa_mono {f : Nat → Int32} {t : Nat} (i j : Nat) (h : paP f t true i j = true) : paP f t false i j = true := by
  unfold paP at h ⊢
  rw [Bool.and_eq_true] at h
  rw [h.1]
  rfl
theorem ss_nat {f : Nat → Int32} {t n : Nat} {fl : Bool} (ht : 1 ≤ t) : ssV f t fl n = nI (psM (paP f t fl) (n + 1 - t)) := by rw [ss_eq (g := f) ht (fun _ _ => rfl), prM_ps]
/-- the worst tear -/
theorem wk_fin {f : Nat → Int32} {n : Nat} (hn : n ≤ 40) (h : ∀ j, j < n → ∃ u : Nat, u ≤ 30 ∧ f j = nI u) : ((wkS f n (dgF f n) n).1 = -1 ∧ ∀ p, p < n → f p = 30) ∨ ∃ p, p < n ∧ ¬ f p = 30 ∧ (wkS f n (dgF f n) n).1 = nI p ∧ (∀ x, x < n → ¬ tvV f n p < tvV f n x) ∧ ∀ x, x < p → ¬ tvV f n x = tvV f n p := by
  have hN := nat_of h
  obtain ⟨F, hF⟩ : ∃ F : Nat → Nat, F = fun j => (f j).toNatClampNeg := ⟨_, rfl⟩
  have hN : ∀ j, j < n → f j = nI (F j) ∧ F j ≤ 30 := by rw [hF]; exact hN
  have hd : dgF f n = nI (dgN F n) := dg_nat hN
  have hD : ∀ p, p < n → dgF (upd f p 30) n = nI (dgN (F30 F p) n) := by
    intro p hp
    refine dg_nat fun j hj => ?_
    unfold upd F30
    by_cases e : j = p
    · rw [if_pos e, if_pos e]; exact ⟨by decide +kernel, Nat.le_refl 30⟩
    · rw [if_neg e, if_neg e]; exact hN j hj
  have hnn : ∀ p, p < n → 0 ≤ (ab (dgF (upd f p 30) n - dgF f n)).toInt := fun p hp => by
    rw [hD p hp, hd]
    exact ab_nn (dgN_lt _ _) (dgN_lt _ _)
  have g2 := wk_Gd (f := f) (D := fun i => dgF (upd f i 30) n) (n := n) (d := dgF f n) (fun p i hp => by
    rw [tn_nat hp hN]
    exact (hD p (by omega)).symm) hnn n (Nat.le_refl n)
  rw [Nat.sub_self] at g2
  have tv : ∀ x, ¬ f x = 30 → tvV f n x = ab (dgF (upd f x 30) n - dgF f n) := fun x hx => if_neg hx
  have tv0 : ∀ x, f x = 30 → tvV f n x = -1 := fun x hx => if_pos hx
  have m1 : ((-1 : Int32)).toInt = -1 := by decide +kernel
  rcases g2 with ⟨a1, -, a3⟩ | ⟨p, -, p2, p3, p4, -, p6, p7⟩
  · exact Or.inl ⟨a1, fun p hp => Decidable.byContradiction (a3 p (Nat.zero_le p) hp)⟩
  · refine Or.inr ⟨p, p2, p3, p4, fun x hx => ?_, fun x hx => ?_⟩
    · rw [Int32.lt_iff_toInt_lt]
      have h0 := hnn p p2
      by_cases e : f x = 30
      · rw [tv0 x e, tv p p3, m1]; omega
      · have h9 : (ab (dgF (upd f x 30) n - dgF f n)).toInt ≤ (ab (dgF (upd f p 30) n - dgF f n)).toInt := p6 x (Nat.zero_le x) hx e
        rw [tv x e, tv p p3]; omega
    · intro he
      have h0 := hnn p p2
      by_cases e : f x = 30
      · rw [tv0 x e, tv p p3] at he
        rw [← he, m1] at h0
        omega
      · have := p7 x (Nat.zero_le x) hx e
        rw [tv x e, tv p p3] at he
        have he2 := congrArg Int32.toInt he
        have h9 : (ab (dgF (upd f x 30) n - dgF f n)).toInt < (ab (dgF (upd f p 30) n - dgF f n)).toInt := this
        omega
/-- torn blocks -/
theorem ct_in {P : Nat → Bool} {lo hi : Nat} : ∀ t, (∀ u, u < t → P u = true → lo ≤ u ∧ u < hi) → ctN P t ≤ min t hi - lo
  | 0, _ => by show 0 ≤ _; omega
  | t + 1, h => by
    have h0 := ct_in (P := P) (lo := lo) (hi := hi) t fun u hu => h u (by omega)
    rw [ctN]
    by_cases hp : P t = true
    · obtain ⟨h1, h2⟩ := h t (Nat.lt_succ_self t) hp
      rw [if_pos hp]
      omega
    · rw [if_neg hp]
      omega
theorem ct_zero {P : Nat → Bool} : ∀ t, ctN P t = 0 → ∀ u, u < t → P u = false
  | 0, _, u, hu => absurd hu (Nat.not_lt_zero u)
  | t + 1, h, u, hu => by
    rw [ctN] at h
    by_cases hp : P t = true
    · rw [if_pos hp] at h; omega
    · rw [if_neg hp] at h
      by_cases e : u = t
      · subst e
        cases h9 : P u with
        | false => rfl
        | true => exact absurd h9 hp
      · exact ct_zero t h u (by omega)
theorem ct_none {P : Nat → Bool} : ∀ t, (∀ u, u < t → P u = false) → ctN P t = 0
  | 0, _ => rfl
  | t + 1, h => by
    rw [ctN, if_neg (by rw [h t (Nat.lt_succ_self t)]; decide)]
    exact ct_none t fun u hu => h u (by omega)
theorem to_hi {bc n sc u : Nat} {f bs : Nat → Int32} (hb : bc = (sc + 4) / 5) (h : toC bc n f bs u = true) : u < (max n sc + 4) / 5 := by
  unfold toC at h
  by_cases h1 : u < bc
  · omega
  by_cases h2 : u < (n + 4) / 5
  · omega
  rw [decide_eq_false h1, decide_eq_false h2] at h
  cases h
/-- the sign that was changed -/
theorem sm_upd {f : Nat → Int32} {j : Nat} {y : Int32} : ∀ {n : Nat}, smF (upd f j y) n = if j < n then smF f n + (y - f j) else smF f n
  | 0 => by rw [if_neg (Nat.not_lt_zero j)]; rfl
  | n + 1 => by
    rw [smF, smF, sm_upd (n := n)]
    unfold upd
    by_cases h : n = j
    · subst h
      rw [if_neg (Nat.lt_irrefl n), if_pos rfl, if_pos (Nat.lt_succ_self n), Int32.add_assoc, Int32.add_comm (f n) (y - f n), Int32.sub_add_cancel]
    · rw [if_neg h]
      by_cases h2 : j < n
      · rw [if_pos h2, if_pos (by omega), Int32.add_assoc, Int32.add_assoc, Int32.add_comm (y - f j) (f n)]
      · rw [if_neg h2, if_neg (by omega)]
theorem wt_upd {f : Nat → Int32} {j : Nat} {y : Int32} : ∀ {n : Nat}, wtF (upd f j y) n = if j < n then wtF f n + (y - f j) * nI (j + 1) else wtF f n
  | 0 => by rw [if_neg (Nat.not_lt_zero j)]; rfl
  | n + 1 => by
    rw [wtF, wtF, wt_upd (n := n)]
    unfold upd
    by_cases h : n = j
    · subst h
      rw [if_neg (Nat.lt_irrefl n), if_pos rfl, if_pos (Nat.lt_succ_self n), Int32.add_assoc, ← Int32.add_mul, Int32.add_comm (f n) (y - f n), Int32.sub_add_cancel]
    · rw [if_neg h]
      by_cases h2 : j < n
      · rw [if_pos h2, if_pos (by omega), Int32.add_assoc, Int32.add_assoc, Int32.add_comm ((y - f j) * nI (j + 1)) (f n * nI (n + 1))]
      · rw [if_neg h2, if_neg (by omega)]
theorem ch_sp {fit : Bool} {sc n : Nat} {lo lw : Int32} {f : Nat → Int32} : chC fit sc n lo lw f = -1 ∨ ∃ j, j < n ∧ chC fit sc n lo lw f = nI j ∧ fit = false ∧ n = sc ∧ (¬ lo = 0) ∧ lo * nI (j + 1) = lw := by
  by_cases h : fit = true ∨ (¬ n = sc) ∨ lo = 0
  · exact Or.inl (chC_a h)
  · have h1 : fit = false := by cases fit with
      | false => rfl
      | true => exact absurd (Or.inl rfl) h
    have h2 : n = sc := Decidable.byContradiction fun z => h (Or.inr (Or.inl z))
    have h3 : ¬ lo = 0 := fun z => h (Or.inr (Or.inr z))
    rw [chC_go h1 h2 h3]
    rcases fsF_sp (P := chP lo lw f) n 0 with ⟨e, -⟩ | ⟨j, -, j2, j3, j4, -⟩
    · exact Or.inl e
    · refine Or.inr ⟨j, by omega, j3, h1, h2, h3, ?_⟩
      unfold chP at j4
      rw [Bool.and_eq_true, Bool.and_eq_true, decide_eq_true_eq, decide_eq_true_eq, decide_eq_true_eq] at j4
      exact j4.2.2
/-- the checksum speaks of the signs alone -/
def smL (LL LL2 : Nat → ltT) : Prop := ∀ i, (LL2 i).1 = (LL i).1 ∧ (LL2 i).2.2 = (LL i).2.2
theorem smL.rf (LL : Nat → ltT) : smL LL LL := fun _ => ⟨rfl, rfl⟩
theorem smL.trans {LL LL2 LL3 : Nat → ltT} (h : smL LL LL2) (h2 : smL LL2 LL3) : smL LL LL3 := fun i => ⟨(h2 i).1.trans (h i).1, (h2 i).2.trans (h i).2⟩
theorem smL_fup {LL : Nat → ltT} {k : Nat} (w : Nat → Int32) : smL LL (fup LL k (((LL k).1, w, (LL k).2.2) : ltT)) := fun i => by
  by_cases h : i = k
  · subst h; rw [fup_at]; exact ⟨rfl, rfl⟩
  · rw [fup_ne _ _ h]; exact ⟨rfl, rfl⟩
theorem smL_dg (LL : Nat → ltT) (i : Nat) : smL LL (dgL LL i) := fun j => ⟨dgL_1 LL i j, dgL_n LL i j⟩
def ckV (LL : Nat → ltT) (EE : Nat → evT) (LN : Nat → Nat) (lc ec : Nat) : Int64 := djE LL EE LN (djL LL (dj0 LL EE LN lc ec) lc) ec
theorem ck_same {LL LL2 : Nat → ltT} {EE : Nat → evT} {LN : Nat → Nat} {lc ec : Nat} (h : smL LL LL2) : ckV LL2 EE LN lc ec = ckV LL EE LN lc ec := by
  have hft : ftD LL2 EE LN = ftD LL EE LN := by
    funext q
    unfold ftD
    rw [(h _).1, (h _).2]
  have hdb : dbD LL2 = dbD LL := by
    funext a b
    unfold dbD
    rw [(h a).1, (h a).2, (h b).1, (h b).2]
  have h0 : dj0 LL2 EE LN lc ec = dj0 LL EE LN lc ec := by
    unfold dj0
    rw [hft, hdb]
  have hL : ∀ x i, djL LL2 x i = djL LL x i := by
    intro x i
    induction i with
    | zero => rfl
    | succ i ih => rw [djL, djL, ih, (h i).1, (h i).2]
  have hE : ∀ x i, djE LL2 EE LN x i = djE LL EE LN x i := by
    intro x i
    induction i with
    | zero => rfl
    | succ i ih =>
      rw [djE, djE, ih]
      unfold weJ toD chD
      rw [hft, (h _).1, (h _).2]
  unfold ckV
  rw [h0, hL, hE]
theorem SW.sameL {g : gT} {B so la ea : Nat} {ra xa ta : Nat → Nat} {LL LL2 : Nat → ltT} {EE : Nat → evT} {TT : Nat → (Nat → Int32) × Nat} {lc ec : Nat} {H : Heap} (hW : SW g B so la ea ra xa ta LL EE TT lc ec H) (h : smL LL LL2) : SW g B so la ea ra xa ta LL2 EE TT lc ec H := hW.lets fun i _ => ⟨(h i).2, fun j _ => by rw [(h i).1]⟩
