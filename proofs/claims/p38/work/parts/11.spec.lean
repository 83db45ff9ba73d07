/-! SPEC: what the readings of a row of signs are, as plain functions -/
def rm (x y : Int32) : Int32 := x - x / y * y
def dgF (f : Nat → Int32) : Nat → Int32
  | 0 => 5
  | k + 1 => rm (dgF f k * 37 + f k + 1) 8191
def wnF (f : Nat → Int32) (a : Nat) : Nat → Int32
  | 0 => 0
  | k + 1 => rm (wnF f a k * 7 + f (a + k) + 1) 97
def cntF (f : Nat → Int32) (x : Int32) : Nat → Int32
  | 0 => 0
  | k + 1 => if f k = x then cntF f x k + 1 else cntF f x k
def smF (f : Nat → Int32) : Nat → Int32
  | 0 => 0
  | k + 1 => smF f k + f k
def wtF (f : Nat → Int32) : Nat → Int32
  | 0 => 0
  | k + 1 => wtF f k + f k * nI (k + 1)
def bspF (f : Nat → Int32) (a : Nat) : Nat → Int32
  | 0 => 0
  | k + 1 => bspF f a k + nI (k + 1) * f (a + k)
def blN (n b : Nat) : Nat := min 5 (n - b * 5)
def blF (f : Nat → Int32) (n b : Nat) : Int32 := rm (bspF f (b * 5) (blN n b)) 32
def unC (f : Nat → Int32) (k : Nat) : Int32 := (rm (nI k) 5 + 1) * (27 - f k)
def unP (f : Nat → Int32) (k : Nat) : Bool := decide (¬ f k = 27) && decide (rm (unC f k) 32 = 0)
def unF (f : Nat → Int32) : Nat → Int32
  | 0 => 0
  | k + 1 => if unP f k then unF f k + 1 else unF f k
def eqR (f : Nat → Int32) (a : Nat) (h : Nat → Int32) (b : Nat) : Nat → Bool
  | 0 => true
  | k + 1 => eqR f a h b k && decide (f (a + k) = h (b + k))
theorem eqR_iff {f h : Nat → Int32} {a b n : Nat} : eqR f a h b n = true ↔ ∀ k, k < n → f (a + k) = h (b + k) := by
  induction n with
  | zero => exact ⟨fun _ k hk => absurd hk (Nat.not_lt_zero k), fun _ => rfl⟩
  | succ n ih =>
    rw [eqR, Bool.and_eq_true, ih, decide_eq_true_eq]
    constructor
    · rintro ⟨h1, h2⟩ k hk
      rcases Nat.lt_or_ge k n with q | q
      · exact h1 k q
      · rw [show k = n by omega]; exact h2
    · exact fun h => ⟨fun k hk => h k (by omega), h n (by omega)⟩
theorem eqR_no {f h : Nat → Int32} {a b n i : Nat} (hi : i < n) (hne : ¬ f (a + i) = h (b + i)) : eqR f a h b n = false := by
  cases hb : eqR f a h b n with
  | false => rfl
  | true => exact absurd (eqR_iff.mp hb i hi) hne
theorem eqR_go {f h : Nat → Int32} {a b i : Nat} (h1 : eqR f a h b i = true) (h2 : f (a + i) = h (b + i)) : eqR f a h b (i + 1) = true := by
  rw [eqR, h1, Bool.true_and]; exact decide_eq_true h2
/-- the first of r places from i on where P holds, else -1 -/
def fsF (P : Nat → Bool) : Nat → Nat → Int32
  | 0, _ => -1
  | r + 1, i => if P i then nI i else fsF P r (i + 1)
theorem fsF_yes {P : Nat → Bool} {r i : Nat} (hr : 0 < r) (h : P i = true) : fsF P r i = nI i := by
  cases r with
  | zero => exact absurd hr (Nat.lt_irrefl 0)
  | succ r => rw [fsF, if_pos h]
theorem fsF_no {P : Nat → Bool} {m i : Nat} (hi : i < m) (h : P i = false) : fsF P (m - i) i = fsF P (m - (i + 1)) (i + 1) := by
  rw [show m - i = (m - (i + 1)) + 1 by omega, fsF, if_neg (by rw [h]; decide)]
/-- x, and one more for each of the first t where P holds -/
def acF (P : Nat → Bool) (x : Int32) : Nat → Int32
  | 0 => x
  | t + 1 => if P t then acF P x t + 1 else acF P x t
/-- pairs i < j of m things for which P i j holds: the first one outside -/
def prC (P : Nat → Nat → Bool) (m : Nat) : Nat → Int32
  | 0 => 0
  | i + 1 => acF (fun t => P i (i + 1 + t)) (prC P m i) (m - (i + 1))
/-- the same, the second one outside -/
def prM (P : Nat → Nat → Bool) : Nat → Int32
  | 0 => 0
  | i + 1 => acF (fun j => P j i) (prM P i) i
def ctN (P : Nat → Bool) : Nat → Nat
  | 0 => 0
  | t + 1 => if P t then ctN P t + 1 else ctN P t
theorem acF_ct (P : Nat → Bool) (x : Nat) : ∀ t, acF P (nI x) t = nI (x + ctN P t)
  | 0 => rfl
  | t + 1 => by
    rw [acF, ctN, acF_ct P x t]
    by_cases h : P t = true
    · rw [if_pos h, if_pos h, nI_1, Nat.add_assoc]
    · rw [if_neg h, if_neg h]
def psC (P : Nat → Nat → Bool) (m : Nat) : Nat → Nat
  | 0 => 0
  | i + 1 => psC P m i + ctN (fun t => P i (i + 1 + t)) (m - (i + 1))
def psM (P : Nat → Nat → Bool) : Nat → Nat
  | 0 => 0
  | i + 1 => psM P i + ctN (fun j => P j i) i
theorem prC_ps (P : Nat → Nat → Bool) (m : Nat) : ∀ i, prC P m i = nI (psC P m i)
  | 0 => rfl
  | i + 1 => by rw [prC, psC, prC_ps P m i, acF_ct]
theorem prM_ps (P : Nat → Nat → Bool) : ∀ i, prM P i = nI (psM P i)
  | 0 => rfl
  | i + 1 => by rw [prM, psM, prM_ps P i, acF_ct]
theorem psC_grow (P : Nat → Nat → Bool) (m : Nat) : ∀ i, i ≤ m → psC P (m + 1) i = psC P m i + ctN (fun j => P j m) i
  | 0, _ => rfl
  | i + 1, h => by
    rw [psC, psC, ctN, psC_grow P m i (by omega), show m + 1 - (i + 1) = (m - (i + 1)) + 1 by omega, ctN, show i + 1 + (m - (i + 1)) = m by omega]
    by_cases q : P i m = true
    · rw [if_pos q, if_pos q]; omega
    · rw [if_neg q, if_neg q]; omega
theorem ps_same (P : Nat → Nat → Bool) : ∀ m, psC P m m = psM P m
  | 0 => rfl
  | m + 1 => by
    rw [psM, psC, Nat.sub_self, psC_grow P m m (Nat.le_refl m), ps_same P m]
    rfl
theorem pr_same (P : Nat → Nat → Bool) (m : Nat) : prC P m m = prM P m := by rw [prC_ps, prM_ps, ps_same]
theorem prM_congr {P Q : Nat → Nat → Bool} : ∀ {m : Nat}, (∀ i j, j < m → i < j → P i j = Q i j) → prM P m = prM Q m
  | 0, _ => rfl
  | m + 1, h => by
    rw [prM, prM, prM_congr (m := m) fun i j hj hi => h i j (by omega) hi]
    have : ∀ t, t ≤ m → acF (fun j => P j m) (prM Q m) t = acF (fun j => Q j m) (prM Q m) t := by
      intro t
      induction t with
      | zero => exact fun _ => rfl
      | succ t ih => exact fun ht => by rw [acF, acF, ih (by omega), h t m (by omega) (by omega)]
    exact this m (Nat.le_refl m)
