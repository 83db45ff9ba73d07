/-! THE DESK'S CONSTRUCTOR: a world that grows -/
def L0 : Nat → ltT := fun _ => (fun _ => 0, fun _ => 0, 0)
def E0 : Nat → evT := fun _ => (0, 0, 0, 0, 0, 0, 0, fun _ => 0)
def cR (g : gT) (AD : Nat → Nat) (r1 r2 : Nat → Option Nat) (k : Nat) : va_E := if k = 1 then .inl (gL g, 12, .inr (.inr (.inr (.inr r1)))) else if k = 2 then .inl (gE g, 24, .inr (.inr (.inr (.inr r2)))) else dkE g AD L0 E0 0 0 k
def wsR (g : gT) (AD : Nat → Nat) (n : Nat) (r1 r2 : Nat → Option Nat) : va_W := (List.range n).map (fun k => (AD k, cR g AD r1 r2 k))
def apA (AD : Nat → Nat) (n : Nat) (f : Nat → Nat) : Nat → Nat := fun k => if k < n then AD k else f (k - n)
section CTOR
variable {g : gT} {AD : Nat → Nat} {r1 r2 : Nat → Option Nat} {n : Nat} {H : Heap} {A : Nat → Prop}
theorem wsR_len : (wsR g AD n r1 r2).length = n := by
  unfold wsR
  rw [List.length_map, List.length_range]
theorem wsR_at {k : Nat} (h : k < n) : (wsR g AD n r1 r2)[k]? = some (AD k, cR g AD r1 r2 k) := by
  unfold wsR
  rw [List.getElem?_map, List.getElem?_range h]
  rfl
theorem wsR_inv {k : Nat} {x : Nat × va_E} (h : (wsR g AD n r1 r2)[k]? = some x) : k < n ∧ x = (AD k, cR g AD r1 r2 k) := by
  have hk : k < n := by
    have h1 := (List.getElem?_eq_some_iff.mp h).1
    rwa [wsR_len] at h1
  rw [wsR_at hk] at h
  exact ⟨hk, (Option.some.inj h).symm⟩
theorem apA_lt {f : Nat → Nat} {k : Nat} (h : k < n) : apA AD n f k = AD k := if_pos h
theorem apA_ge (f : Nat → Nat) (k : Nat) : apA AD n f (n + k) = f k := by
  unfold apA
  rw [if_neg (by omega), Nat.add_sub_cancel_left]
/-- a cell of whole objects speaks of its own addresses alone -/
theorem cR_ap {f : Nat → Nat} {k : Nat} (hk : k < n) (hn : 3 ≤ n) (hw : (n ≤ 39 ∧ n % 3 = 0) ∨ (39 ≤ n ∧ n % 2 = 1)) : cR g (apA AD n f) r1 r2 k = cR g AD r1 r2 k := by
  unfold cR
  by_cases h1 : k = 1
  · rw [if_pos h1, if_pos h1]
  rw [if_neg h1, if_neg h1]
  by_cases h2 : k = 2
  · rw [if_pos h2, if_pos h2]
  rw [if_neg h2, if_neg h2]
  unfold dkE
  by_cases h0 : k = 0
  · rw [if_pos h0, if_pos h0, apA_lt (by omega), apA_lt (by omega)]
  rw [if_neg h0, if_neg h0, if_neg h1, if_neg h1, if_neg h2, if_neg h2]
  by_cases h3 : k < 39
  · rw [if_pos h3, if_pos h3]
    unfold ltE
    by_cases h4 : (k - 3) % 3 = 0
    · rw [if_pos h4, if_pos h4, apA_lt (by omega), apA_lt (by omega)]
    · rw [if_neg h4, if_neg h4]
  · rw [if_neg h3, if_neg h3]
    unfold evE
    by_cases h4 : (k - 39) % 2 = 0
    · rw [if_pos h4, if_pos h4, apA_lt (by omega)]
    · rw [if_neg h4, if_neg h4]
theorem cR_r {s1 s2 : Nat → Option Nat} {k : Nat} (h1 : k = 1 → r1 = s1) (h2 : k = 2 → r2 = s2) : cR g AD r1 r2 k = cR g AD s1 s2 k := by
  unfold cR
  by_cases a1 : k = 1
  · rw [if_pos a1, if_pos a1, h1 a1]
  rw [if_neg a1, if_neg a1]
  by_cases a2 : k = 2
  · rw [if_pos a2, if_pos a2, h2 a2]
  rw [if_neg a2, if_neg a2]
/-- one more letter -/
theorem wsR_L {i q : Nat} {u : Nat → Nat} {s1 : Nat → Option Nat} (hi : i < 12) (hn : n = 3 + 3 * i) :
    (wsR g AD n r1 r2 ++ ltW g q (u 0) (u 1) (fun _ => 0) (fun _ => 0) 0).set 1 (AD 1, .inl (gL g, 12, .inr (.inr (.inr (.inr s1))))) = wsR g (apA AD n (fun k => if k = 0 then q else u (k - 1))) (n + 3) s1 r2 := by
  refine List.ext_getElem? fun k => ?_
  rw [List.getElem?_set]
  by_cases h1 : 1 = k
  · subst h1
    rw [if_pos rfl, if_pos (by rw [List.length_append, wsR_len]; show 1 < n + 3; omega), wsR_at (by omega), apA_lt (by omega)]
    rfl
  rw [if_neg h1]
  by_cases hk : k < n
  · rw [List.getElem?_append_left (by rw [wsR_len]; exact hk), wsR_at hk, wsR_at (by omega), apA_lt hk, cR_ap hk (by omega) (by omega), cR_r (fun h => absurd h.symm h1) (fun _ => rfl)]
  · rw [List.getElem?_append_right (by rw [wsR_len]; omega), wsR_len]
    by_cases hk3 : k < n + 3
    · obtain ⟨r, hr, rfl⟩ : ∃ r, r < 3 ∧ k = n + r := ⟨k - n, by omega, by omega⟩
      rw [wsR_at hk3, apA_ge, Nat.add_sub_cancel_left]
      have e1 : cR g (apA AD n (fun k => if k = 0 then q else u (k - 1))) s1 r2 (n + r) = ltE g (apA AD n (fun k => if k = 0 then q else u (k - 1))) i (L0 i) r := by
        unfold cR
        rw [if_neg (by omega), if_neg (by omega), hn, dkE_lt hi hr]
      rw [e1]
      match r, hr with
      | 0, _ =>
        show some _ = some _
        unfold ltE
        rw [if_pos rfl, if_pos rfl, show 4 + 3 * i = n + 1 by omega, show 5 + 3 * i = n + 2 by omega, apA_ge, apA_ge]
        rfl
      | 1, _ => rfl
      | 2, _ => rfl
    · rw [List.getElem?_eq_none (by show 3 ≤ k - n; omega), List.getElem?_eq_none (by rw [wsR_len]; omega)]
/-- one more envelope -/
theorem wsR_E {i q : Nat} {u : Nat → Nat} {s2 : Nat → Option Nat} (hn : n = 39 + 2 * i) :
    (wsR g AD n r1 r2 ++ evW g q (u 0) 0 0 0 0 0 0 0 (fun _ => 0)).set 2 (AD 2, .inl (gE g, 24, .inr (.inr (.inr (.inr s2))))) = wsR g (apA AD n (fun k => if k = 0 then q else u (k - 1))) (n + 2) r1 s2 := by
  refine List.ext_getElem? fun k => ?_
  rw [List.getElem?_set]
  by_cases h1 : 2 = k
  · subst h1
    rw [if_pos rfl, if_pos (by rw [List.length_append, wsR_len]; show 2 < n + 2; omega), wsR_at (by omega), apA_lt (by omega)]
    rfl
  rw [if_neg h1]
  by_cases hk : k < n
  · rw [List.getElem?_append_left (by rw [wsR_len]; exact hk), wsR_at hk, wsR_at (by omega), apA_lt hk, cR_ap hk (by omega) (by omega), cR_r (fun _ => rfl) (fun h => absurd h.symm h1)]
  · rw [List.getElem?_append_right (by rw [wsR_len]; omega), wsR_len]
    by_cases hk3 : k < n + 2
    · obtain ⟨r, hr, rfl⟩ : ∃ r, r < 2 ∧ k = n + r := ⟨k - n, by omega, by omega⟩
      rw [wsR_at hk3, apA_ge, Nat.add_sub_cancel_left]
      have e1 : cR g (apA AD n (fun k => if k = 0 then q else u (k - 1))) r1 s2 (n + r) = evE g (apA AD n (fun k => if k = 0 then q else u (k - 1))) i (E0 i) r := by
        unfold cR
        rw [if_neg (by omega), if_neg (by omega), hn, dkE_ev hr]
      rw [e1]
      match r, hr with
      | 0, _ =>
        show some _ = some _
        unfold evE
        rw [if_pos rfl, if_pos rfl, show 40 + 2 * i = n + 1 by omega, apA_ge]
        rfl
      | 1, _ => rfl
    · rw [List.getElem?_eq_none (by show 2 ≤ k - n; omega), List.getElem?_eq_none (by rw [wsR_len]; omega)]
theorem refs_eq {cA : ClassId} {n : Nat} {f f' : Nat → Option Nat} (h : ∀ j, j < n → f j = f' j) : vp_cell cA (n, .inr (.inr (.inr (.inr f)))) = vp_cell cA (n, .inr (.inr (.inr (.inr f')))) := by
  rw [vp_cell_q, vp_cell_q]
  unfold arrV
  congr 2
  funext j
  show va_rf (f j.1) = va_rf (f' j.1)
  rw [h j.1 j.2]
/-- the whole desk -/
theorem wsR_whole (hP : va_P (gD g) vwCl (wsR g AD 87 r1 r2) H) (h1 : ∀ i, i < 12 → r1 i = some (AD (3 + 3 * i))) (h2 : ∀ i, i < 24 → r2 i = some (AD (39 + 2 * i))) : va_P (gD g) vwCl (wsD g AD L0 E0 0 0) H := by
  intro k x hx
  obtain ⟨hk, rfl⟩ := wsD_inv hx
  have h := hP k _ (wsR_at hk)
  by_cases a1 : k = 1
  · subst a1
    have h : H[AD 1]? = some (vp_cell (gL g) (12, .inr (.inr (.inr (.inr r1))))) := h
    rw [refs_eq h1] at h
    exact h
  by_cases a2 : k = 2
  · subst a2
    have h : H[AD 2]? = some (vp_cell (gE g) (24, .inr (.inr (.inr (.inr r2))))) := h
    rw [refs_eq h2] at h
    exact h
  unfold cR at h
  rw [if_neg a1, if_neg a2] at h
  exact h
theorem wsR_D (hD : va_D A (wsR g AD 87 r1 r2)) : va_D A (wsD g AD L0 E0 0 0) := dk_D (fun j k hj hk e => hD.1 j k _ _ (wsR_at hj) (wsR_at hk) e) (fun k hk => hD.2 k _ (wsR_at hk))
end CTOR
