/-! SPEC, second: what the reference's rows are read as -/
def inB (x : Int32) (n : Nat) : Bool := decide (0 ≤ x) && decide (x < nI n)
theorem inB_le {x : Int32} {n : Nat} (h : n < 2 ^ 31) : (decide (0 ≤ x) && decide (x ≤ nI n - 1)) = inB x n := by
  unfold inB
  by_cases h0 : 0 ≤ x
  · rw [decide_eq_true h0, Bool.true_and, Bool.true_and]
    refine decide_eq_decide.mpr ?_
    have h1 : 0 ≤ x.toInt := by
      have := Int32.le_iff_toInt_le.mp h0
      rwa [Int32.toInt_zero] at this
    cases n with
    | zero =>
      rw [Int32.le_iff_toInt_le, Int32.lt_iff_toInt_lt, nI_0, Int32.toInt_zero, show ((0 : Int32) - 1).toInt = -1 by decide +kernel]
      omega
    | succ n =>
      rw [nI_pred, Int32.le_iff_toInt_le, Int32.lt_iff_toInt_lt, nI_toInt (by omega), nI_toInt h]
      omega
  · rw [decide_eq_false h0, Bool.false_and, Bool.false_and]
theorem inB_nI {k n : Nat} (h : k < n) (hn : n < 2 ^ 31) : inB (nI k) n = true := by
  unfold inB
  rw [decide_eq_true (nI_pos' (by omega)), decide_eq_true (nI_lt h hn)]
  rfl
theorem inB_of {x : Int32} {n : Nat} (h : inB x n = true) (hn : n < 2 ^ 31) : ∃ k : Nat, k < n ∧ x = nI k := by
  unfold inB at h
  rw [Bool.and_eq_true, decide_eq_true_eq, decide_eq_true_eq] at h
  obtain ⟨k, hk, rfl⟩ := nI_of (x := x) (Int32.not_lt.mpr h.1)
  exact ⟨k, (nI_ltI hk hn).mp h.2, rfl⟩
abbrev rwV (V : Nat → Nat → Int32) (k : Nat) : Nat → Int32 := fun j => V 1 (40 * k + j)
def wdV (V : Nat → Nat → Int32) (k : Nat) (p o : Int32) : Nat → Int32 := fun j => if nI j = p then o else V 1 (40 * k + j)
theorem wdV_no {V : Nat → Nat → Int32} {k i : Nat} {p o : Int32} (h : ¬ nI i = p) : wdV V k p o i = V 1 (40 * k + i) := if_neg h
theorem wdV_yes {V : Nat → Nat → Int32} {k i : Nat} {p o : Int32} (h : nI i = p) : wdV V k p o i = o := if_pos h
theorem dgF_congr {f g : Nat → Int32} : ∀ {n : Nat}, (∀ j, j < n → f j = g j) → dgF f n = dgF g n
  | 0, _ => rfl
  | n + 1, h => by rw [dgF, dgF, dgF_congr (n := n) fun j hj => h j (by omega), h n (by omega)]
theorem nI_nm1 : ∀ j, j < 40 → ¬ nI j = -1 := by decide +kernel
theorem dgF_now {V : Nat → Nat → Int32} {k n : Nat} (hn : n ≤ 40) : dgF (wdV V k (-1) 0) n = dgF (rwV V k) n := dgF_congr fun j hj => wdV_no (nI_nm1 j (by omega))
def slF (p x : Int32) : Int32 := rm (p * 53 + x) 65521
def lsV (S : Nat → Int32) (ec : Nat) : Int32 := if ec = 0 then 1 else S (ec - 1)
def paP (f : Nat → Int32) (t : Nat) (fl : Bool) (a b : Nat) : Bool := decide (wnF f b t = wnF f a t) && !(fl && eqR f b f a t)
theorem paP_no {f : Nat → Int32} {t a b : Nat} {fl : Bool} (h : (¬ wnF f b t = wnF f a t) ∨ (fl = true ∧ eqR f b f a t = true)) : ¬ paP f t fl a b = true := by
  unfold paP
  rcases h with h | ⟨h1, h2⟩
  · rw [decide_eq_false h]; simp
  · rw [h1, h2]; simp
theorem paP_yes {f : Nat → Int32} {t a b : Nat} {fl : Bool} (h : wnF f b t = wnF f a t) (h2 : fl = false ∨ eqR f b f a t = false) : paP f t fl a b = true := by
  unfold paP
  rw [decide_eq_true h]
  rcases h2 with h2 | h2 <;> rw [h2] <;> simp
def dbP (r : Nat → Nat → Int32) (NN : Nat → Nat) (a b : Nat) : Bool := decide (dgF (r b) (NN b) = dgF (r a) (NN a)) && !(decide (NN b = NN a) && eqR (r b) 0 (r a) 0 (NN a))
theorem dbP_no {r : Nat → Nat → Int32} {NN : Nat → Nat} {a b : Nat} (h : (¬ dgF (r b) (NN b) = dgF (r a) (NN a)) ∨ (NN b = NN a ∧ eqR (r b) 0 (r a) 0 (NN a) = true)) : ¬ dbP r NN a b = true := by
  unfold dbP
  rcases h with h | ⟨h1, h2⟩
  · rw [decide_eq_false h]; simp
  · rw [h2, decide_eq_true h1]; simp
theorem dbP_yes {r : Nat → Nat → Int32} {NN : Nat → Nat} {a b : Nat} (h : dgF (r b) (NN b) = dgF (r a) (NN a)) (h2 : (¬ NN b = NN a) ∨ eqR (r b) 0 (r a) 0 (NN a) = false) : dbP r NN a b = true := by
  unfold dbP
  rw [decide_eq_true h]
  rcases h2 with h2 | h2
  · rw [decide_eq_false h2]; simp
  · rw [h2]; simp
def ab (x : Int32) : Int32 := if 0 ≤ x then x else 0 - x
def asP (V : Nat → Nat → Int32) (NN LN : Nat → Nat) (q : Nat) : Bool := decide (dgF (rwV V (LN q)) (NN (LN q)) = V 3 q)
def toP (V : Nat → Nat → Int32) (NN LN SC : Nat → Nat) (q u : Nat) : Bool := (decide (u < (SC q + 4) / 5) != decide (u < (NN (LN q) + 4) / 5)) || (decide (u < (NN (LN q) + 4) / 5) && decide (¬ blF (rwV V (LN q)) (NN (LN q)) u = V 5 (8 * q + u)))
def chM (as : Bool) (sc n : Nat) (by_ ti : Int32) (f : Nat → Int32) : Int32 :=
  if as = true ∨ (¬ sc = n) ∨ by_ = 0 ∨ ¬ rm ti by_ = 0 then -1 else if inB (ti / by_ - 1) n = true ∧ (decide (0 ≤ f (ti / by_ - 1).toNatClampNeg + by_) && decide (f (ti / by_ - 1).toNatClampNeg + by_ ≤ 30)) = true then ti / by_ - 1 else -1
theorem chM_a {as : Bool} {sc n : Nat} {by_ ti : Int32} {f : Nat → Int32} (h : as = true ∨ (¬ sc = n) ∨ by_ = 0 ∨ ¬ rm ti by_ = 0) : chM as sc n by_ ti f = -1 := if_pos h
theorem chM_go {as : Bool} {sc n : Nat} {by_ ti : Int32} {f : Nat → Int32} (h1 : as = false) (h2 : sc = n) (h3 : ¬ by_ = 0) (h4 : rm ti by_ = 0) : chM as sc n by_ ti f = if inB (ti / by_ - 1) n = true ∧ (decide (0 ≤ f (ti / by_ - 1).toNatClampNeg + by_) && decide (f (ti / by_ - 1).toNatClampNeg + by_ ≤ 30)) = true then ti / by_ - 1 else -1 := if_neg (fun h => h.elim (fun h => by rw [h1] at h; cases h) (fun h => h.elim (fun h => h h2) (fun h => h.elim (fun h => h3 h) (fun h => h h4))))
theorem chM_b {as : Bool} {sc n : Nat} {by_ ti : Int32} {f : Nat → Int32} (h1 : as = false) (h2 : sc = n) (h3 : ¬ by_ = 0) (h4 : rm ti by_ = 0) (h5 : inB (ti / by_ - 1) n = false) : chM as sc n by_ ti f = -1 := by
  rw [chM_go h1 h2 h3 h4, if_neg (by rw [h5]; simp)]
theorem chM_c {as : Bool} {sc n j : Nat} {by_ ti : Int32} {f : Nat → Int32} (h1 : as = false) (h2 : sc = n) (h3 : ¬ by_ = 0) (h4 : rm ti by_ = 0) (h5 : ti / by_ - 1 = nI j) (hj : j < n) (hn : n ≤ 40) (h6 : (decide (0 ≤ f j + by_) && decide (f j + by_ ≤ 30)) = false) : chM as sc n by_ ti f = -1 := by
  rw [chM_go h1 h2 h3 h4, h5, nI_clamp (by omega), if_neg (by rw [h6]; simp)]
theorem chM_d {as : Bool} {sc n j : Nat} {by_ ti : Int32} {f : Nat → Int32} (h1 : as = false) (h2 : sc = n) (h3 : ¬ by_ = 0) (h4 : rm ti by_ = 0) (hj : j < n) (hn : n ≤ 40) (h5 : ti / by_ - 1 = nI j) (h6 : (decide (0 ≤ f j + by_) && decide (f j + by_ ≤ 30)) = true) : chM as sc n by_ ti f = ti / by_ - 1 := by
  rw [chM_go h1 h2 h3 h4, h5, nI_clamp (by omega), if_pos ⟨inB_nI hj (by omega), h6⟩]
theorem s27 {x : Int32} : (27 - x = 0) ↔ x = 27 := ⟨fun h => by
  have h2 : 27 - x + x = 0 + x := by rw [h]
  rw [Int32.sub_add_cancel, Int32.zero_add] at h2
  exact h2.symm, fun h => by rw [h]; decide +kernel⟩
theorem unP_no {f : Nat → Int32} {k : Nat} (h : f k = 27 ∨ ¬ rm (unC f k) 32 = 0) : ¬ unP f k = true := by
  unfold unP
  rcases h with h | h <;> simp [h]
theorem unP_yes {f : Nat → Int32} {k : Nat} (h : ¬ f k = 27) (h2 : rm (unC f k) 32 = 0) : unP f k = true := by
  unfold unP
  simp [h, h2]
/-- the reference's search for the worst tear: best place and most change, after i places; D i: the digest with a tear at i, d: as it is -/
def wmS (f D : Nat → Int32) (d : Int32) : Nat → Int32 × Int32
  | 0 => (-1, -1)
  | i + 1 => if f i = 30 then wmS f D d i else if ab (D i - d) ≤ (wmS f D d i).2 then wmS f D d i else (nI i, ab (D i - d))
def toC (bc n : Nat) (f bs : Nat → Int32) (u : Nat) : Bool := (decide (u < bc) != decide (u < (n + 4) / 5)) || (decide (u < (n + 4) / 5) && decide (¬ blF f n u = bs u))
def chP (lo lw : Int32) (f : Nat → Int32) (j : Nat) : Bool := decide (¬ f j + lo < 0) && (decide (¬ 30 < f j + lo) && decide (lo * nI (j + 1) = lw))
def chC (fit : Bool) (sc n : Nat) (lo lw : Int32) (f : Nat → Int32) : Int32 := if fit = true ∨ (¬ n = sc) ∨ lo = 0 then -1 else fsF (chP lo lw f) n 0
theorem chC_a {fit : Bool} {sc n : Nat} {lo lw : Int32} {f : Nat → Int32} (h : fit = true ∨ (¬ n = sc) ∨ lo = 0) : chC fit sc n lo lw f = -1 := if_pos h
theorem chC_go {fit : Bool} {sc n : Nat} {lo lw : Int32} {f : Nat → Int32} (h1 : fit = false) (h2 : n = sc) (h3 : ¬ lo = 0) : chC fit sc n lo lw f = fsF (chP lo lw f) n 0 := if_neg (fun h => h.elim (fun h => by rw [h1] at h; cases h) (fun h => h.elim (fun h => h h2) (fun h => h3 h)))
theorem chP_no {lo lw : Int32} {f : Nat → Int32} {j : Nat} (h : f j + lo < 0 ∨ 30 < f j + lo ∨ ¬ lo * nI (j + 1) = lw) : chP lo lw f j = false := by
  unfold chP
  rcases h with h | h | h <;> simp [h]
theorem chP_yes {lo lw : Int32} {f : Nat → Int32} {j : Nat} (h1 : ¬ f j + lo < 0) (h2 : ¬ 30 < f j + lo) (h3 : lo * nI (j + 1) = lw) : chP lo lw f j = true := by
  unfold chP
  rw [decide_eq_true h1, decide_eq_true h2, decide_eq_true h3]
  rfl
def tnF (f : Nat → Int32) (d wt : Int32) (p : Nat) : Int32 := rm (d + (30 - f p) * wt) 8191
/-- the class's search for the worst tear, from the last place on: place, change, weight after i places -/
def wkS (f : Nat → Int32) (n : Nat) (d : Int32) : Nat → Int32 × Int32 × Int32
  | 0 => (-1, 0, 1)
  | i + 1 => if (¬ f (n - 1 - i) = 30) ∧ ¬ ab (tnF f d (wkS f n d i).2.2 (n - 1 - i) - d) < (wkS f n d i).2.1 then (nI (n - 1 - i), ab (tnF f d (wkS f n d i).2.2 (n - 1 - i) - d), rm ((wkS f n d i).2.2 * 37) 8191) else ((wkS f n d i).1, (wkS f n d i).2.1, rm ((wkS f n d i).2.2 * 37) 8191)
theorem pl_neg {m : Nat} (h : m ≤ 40) : nI m - 1 < 0 ↔ m = 0 := by
  cases m with
  | zero => exact ⟨fun _ => rfl, fun _ => by decide +kernel⟩
  | succ m => rw [nI_pred]; exact ⟨fun q => absurd q (nI_pos (by omega)), fun q => absurd q (Nat.succ_ne_zero m)⟩
/-- the first i of g, then f -/
def flF (f g : Nat → Int32) (i : Nat) : Nat → Int32 := fun j => if j < i then g j else f j
theorem flF_0 (f g : Nat → Int32) : flF f g 0 = f := by
  funext j
  exact if_neg (Nat.not_lt_zero j)
theorem flF_in {f g : Nat → Int32} {i j : Nat} (h : j < i) : flF f g i j = g j := if_pos h
theorem flF_out {f g : Nat → Int32} {i j : Nat} (h : i ≤ j) : flF f g i j = f j := if_neg (Nat.not_lt.mpr h)
theorem flF_up (f g : Nat → Int32) (i : Nat) : flF f g (i + 1) = upd (flF f g i) i (g i) := by
  funext j
  unfold flF upd
  by_cases h : j = i
  · subst h; simp
  · rw [if_neg h]
    show (if j < i + 1 then g j else f j) = if j < i then g j else f j
    by_cases h2 : j < i
    · rw [if_pos h2, if_pos (by omega)]
    · rw [if_neg h2, if_neg (by omega)]
def pcP (f : Nat → Int32) (t : Nat) (fl : Bool) (a b : Nat) : Bool := decide (wnF f a t = wnF f b t) && !(fl && eqR f a f b t)
theorem pcP_no {f : Nat → Int32} {t a b : Nat} {fl : Bool} (h : (¬ wnF f a t = wnF f b t) ∨ (fl = true ∧ eqR f a f b t = true)) : ¬ pcP f t fl a b = true := by
  unfold pcP
  rcases h with h | ⟨h1, h2⟩
  · rw [decide_eq_false h]; simp
  · rw [h1, h2]; simp
theorem pcP_yes {f : Nat → Int32} {t a b : Nat} {fl : Bool} (h : wnF f a t = wnF f b t) (h2 : fl = false ∨ eqR f a f b t = false) : pcP f t fl a b = true := by
  unfold pcP
  rw [decide_eq_true h]
  rcases h2 with h2 | h2 <;> rw [h2] <;> simp
theorem eqR_symm {f h : Nat → Int32} {a b n : Nat} : eqR f a h b n = eqR h b f a n := by
  cases q : eqR f a h b n with
  | true => exact (eqR_iff.mpr fun k hk => (eqR_iff.mp q k hk).symm).symm
  | false =>
    cases q2 : eqR h b f a n with
    | false => rfl
    | true => rw [eqR_iff.mpr fun k hk => (eqR_iff.mp q2 k hk).symm] at q; cases q
theorem pc_pa (f : Nat → Int32) (t : Nat) (fl : Bool) (a b : Nat) : pcP f t fl a b = paP f t fl a b := by
  unfold pcP paP
  rw [eqR_symm, show (decide (wnF f a t = wnF f b t)) = decide (wnF f b t = wnF f a t) from decide_eq_decide.mpr ⟨Eq.symm, Eq.symm⟩]
theorem neg_wb : ∀ n, n < 41 → ∀ t, t < 41 → n < t → nI n - nI t + 1 ≤ 0 := by decide +kernel
