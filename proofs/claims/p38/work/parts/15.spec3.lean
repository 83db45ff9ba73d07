/-! SPEC, third: rows changed, ranges -/
def vup (V : Nat → Nat → Int32) (j : Nat) (f : Nat → Int32) : Nat → Nat → Int32 := fun i => if i = j then f else V i
theorem upd_at (f : Nat → Int32) (k : Nat) (x : Int32) : upd f k x k = x := pk_us
theorem nI_one : nI 1 = 1 := by decide +kernel
theorem nI_40 : nI 40 = 40 := by decide +kernel
theorem rng_1 {t n : Nat} (ht : 1 ≤ t) (h2 : t ≤ n) (hn : n < 2 ^ 31) : (decide (1 ≤ nI t) && decide (nI t ≤ nI n)) = true := by
  rw [← nI_one, decide_eq_true (nI_le ht (by omega)), decide_eq_true (nI_le h2 hn)]
  rfl
theorem rng_2 {o t n : Nat} (ho : o + t ≤ n) (hn : n < 2 ^ 31) : (decide (0 ≤ nI o) && decide (nI o ≤ nI n - nI t)) = true := by
  rw [pk_sub (by omega), decide_eq_true (nI_pos' (by omega)), decide_eq_true (nI_le (by omega) (by omega))]
  rfl
theorem rng_40 {t : Nat} (ht : 1 ≤ t) (ht2 : t ≤ 40) : (decide (1 ≤ nI t) && decide (nI t ≤ 40)) = true := by
  rw [← nI_40]
  exact rng_1 ht ht2 (by omega)
