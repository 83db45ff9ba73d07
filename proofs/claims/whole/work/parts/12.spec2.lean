/-! SPEC, second: what the reference's rows are read as -/
def inB (x : Int32) (n : Nat) : Bool := decide (0 ≤ x) && decide (x < nI n)
theorem inB_le {x : Int32} {n : Nat} (h : n < 2 ^ 31) : (decide (0 ≤ x) && decide (x ≤ nI n - 1)) = inB x n := by
  unfold inB
  by_cases h0 : 0 ≤ x
  · rw [decide_eq_true h0, Bool.true_and, Bool.true_and]
    refine decide_eq_decide.mpr ?_
    have h1 : 0 ≤ x.toInt := by
      have := Int32.le_iff_toInt_le.mp h0
      rwa [Int32.toInt_zero] at this
    cases n with
    | zero =>
      rw [Int32.le_iff_toInt_le, Int32.lt_iff_toInt_lt, nI_0, Int32.toInt_zero, show ((0 : Int32) - 1).toInt = -1 by decide +kernel]
      omega
    | succ n =>
      rw [nI_pred, Int32.le_iff_toInt_le, Int32.lt_iff_toInt_lt, nI_toInt (by omega), nI_toInt h]
      omega
  · rw [decide_eq_false h0, Bool.false_and, Bool.false_and]
theorem inB_nI {k n : Nat} (h : k < n) (hn : n < 2 ^ 31) : inB (nI k) n = true := by
  unfold inB
  rw [decide_eq_true (nI_pos' (by omega)), decide_eq_true (nI_lt h hn)]
  rfl
theorem inB_of {x : Int32} {n : Nat} (h : inB x n = true) (hn : n < 2 ^ 31) : ∃ k : Nat, k < n ∧ x = nI k := by
  unfold inB at h
  rw [Bool.and_eq_true, decide_eq_true_eq, decide_eq_true_eq] at h
  obtain ⟨k, hk, rfl⟩ := nI_of (x := x) (Int32.not_lt.mpr h.1)
  exact ⟨k, (nI_ltI hk hn).mp h.2, rfl⟩
abbrev rwV (V : Nat → Nat → Int32) (k : Nat) : Nat → Int32 := fun j => V 1 (40 * k + j)
def wdV (V : Nat → Nat → Int32) (k : Nat) (p o : Int32) : Nat → Int32 := fun j => if nI j = p then o else V 1 (40 * k + j)
theorem wdV_no {V : Nat → Nat → Int32} {k i : Nat} {p o : Int32} (h : ¬ nI i = p) : wdV V k p o i = V 1 (40 * k + i) := if_neg h
theorem wdV_yes {V : Nat → Nat → Int32} {k i : Nat} {p o : Int32} (h : nI i = p) : wdV V k p o i = o := if_pos h
theorem dgF_congr {f g : Nat → Int32} : ∀ {n : Nat}, (∀ j, j < n → f j = g j) → dgF f n = dgF g n
  | 0, _ => rfl
  | n + 1, h => by rw [dgF, dgF, dgF_congr (n := n) fun j hj => h j (by omega), h n (by omega)]
theorem nI_nm1 : ∀ j, j < 40 → ¬ nI j = -1 := by decide +kernel
theorem dgF_now {V : Nat → Nat → Int32} {k n : Nat} (hn : n ≤ 40) : dgF (wdV V k (-1) 0) n = dgF (rwV V k) n := dgF_congr fun j hj => wdV_no (nI_nm1 j (by omega))
def slF (p x : Int32) : Int32 := rm (p * 53 + x) 65521
def lsV (S : Nat → Int32) (ec : Nat) : Int32 := if ec = 0 then 1 else S (ec - 1)
def paP (f : Nat → Int32) (t : Nat) (fl : Bool) (a b : Nat) : Bool := decide (wnF f b t = wnF f a t) && !(fl && eqR f b f a t)
theorem paP_no {f : Nat → Int32} {t a b : Nat} {fl : Bool} (h : (¬ wnF f b t = wnF f a t) ∨ (fl = true ∧ eqR f b f a t = true)) : ¬ paP f t fl a b = true := by
  unfold paP
  rcases h with h | ⟨h1, h2⟩
  · rw [decide_eq_false h]; simp
  · rw [h1, h2]; simp
theorem paP_yes {f : Nat → Int32} {t a b : Nat} {fl : Bool} (h : wnF f b t = wnF f a t) (h2 : fl = false ∨ eqR f b f a t = false) : paP f t fl a b = true := by
  unfold paP
  rw [decide_eq_true h]
  rcases h2 with h2 | h2 <;> rw [h2] <;> simp
def dbP (r : Nat → Nat → Int32) (NN : Nat → Nat) (a b : Nat) : Bool := decide (dgF (r b) (NN b) = dgF (r a) (NN a)) && !(decide (NN b = NN a) && eqR (r b) 0 (r a) 0 (NN a))
theorem dbP_no {r : Nat → Nat → Int32} {NN : Nat → Nat} {a b : Nat} (h : (¬ dgF (r b) (NN b) = dgF (r a) (NN a)) ∨ (NN b = NN a ∧ eqR (r b) 0 (r a) 0 (NN a) = true)) : ¬ dbP r NN a b = true := by
  unfold dbP
  rcases h with h | ⟨h1, h2⟩
  · rw [decide_eq_false h]; simp
  · rw [h2, decide_eq_true h1]; simp
theorem dbP_yes {r : Nat → Nat → Int32} {NN : Nat → Nat} {a b : Nat} (h : dgF (r b) (NN b) = dgF (r a) (NN a)) (h2 : (¬ NN b = NN a) ∨ eqR (r b) 0 (r a) 0 (NN a) = false) : dbP r NN a b = true := by
  unfold dbP
  rw [decide_eq_true h]
  rcases h2 with h2 | h2
  · rw [decide_eq_false h2]; simp
  · rw [h2]; simp
