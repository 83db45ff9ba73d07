/-! the worst tear: from the front with whole digests, from the end with weights -/
theorem rm_nat {a b : Nat} (ha : a < 2 ^ 31) (hb : b < 2 ^ 31) : rm (nI a) (nI b) = nI (a % b) := by
  have hq : nI a / nI b = nI (a / b) := by
    have h1 : a / b ≤ a := Nat.div_le_self a b
    apply Int32.toInt_inj.mp
    rw [Int32.toInt_div, nI_toInt ha, nI_toInt hb, nI_toInt (by omega)]
    have : (a : Int).tdiv (b : Int) = ((a / b : Nat) : Int) := (Int.ofNat_tdiv a b).symm
    rw [this]
    have key : ∀ z : Nat, z < 2147483648 → ((z : Int)).bmod (2 ^ 32) = z := fun z hz => bm_ok (by omega) (by omega)
    exact key _ (Nat.lt_of_le_of_lt h1 ha)
  unfold rm
  rw [hq, pk_mul, pk_sub (Nat.div_mul_le_self a b)]
  have h2 := Nat.div_add_mod a b
  rw [Nat.mul_comm] at h2
  congr 1
  omega
def dgN (F : Nat → Nat) : Nat → Nat
  | 0 => 5
  | k + 1 => (dgN F k * 37 + F k + 1) % 8191
theorem dgN_lt (F : Nat → Nat) : ∀ n, dgN F n < 8191
  | 0 => by show 5 < 8191; decide
  | n + 1 => Nat.mod_lt _ (by decide)
theorem e8191 : (8191 : Int32) = nI 8191 := by decide +kernel
theorem e37 : (37 : Int32) = nI 37 := by decide +kernel
theorem dg_nat {f : Nat → Int32} {F : Nat → Nat} : ∀ {n : Nat}, (∀ j, j < n → f j = nI (F j) ∧ F j ≤ 30) → dgF f n = nI (dgN F n)
  | 0, _ => by show (5 : Int32) = nI 5; decide +kernel
  | n + 1, h => by
    have h1 := dgN_lt F n
    have h2 := (h n (by omega)).2
    rw [dgF, dgN, dg_nat (n := n) fun j hj => h j (by omega), (h n (by omega)).1, e37, e8191, pk_mul, nI_add, nI_1, rm_nat (by omega) (by omega)]
def F30 (F : Nat → Nat) (p : Nat) : Nat → Nat := fun j => if j = p then 30 else F j
theorem dgN_pre (F : Nat → Nat) (p : Nat) : ∀ n, n ≤ p → dgN (F30 F p) n = dgN F n
  | 0, _ => rfl
  | n + 1, h => by
    have : F30 F p n = F n := if_neg (by omega)
    rw [dgN, dgN, dgN_pre F p n (by omega), this]
theorem dgN_30 (F : Nat → Nat) (p : Nat) (hp : F p ≤ 30) : ∀ i, dgN (F30 F p) (p + 1 + i) = (dgN F (p + 1 + i) + (30 - F p) * 37 ^ i) % 8191
  | 0 => by
    have e : F30 F p p = 30 := if_pos rfl
    show dgN (F30 F p) (p + 1) = (dgN F (p + 1) + (30 - F p) * 37 ^ 0) % 8191
    rw [dgN, dgN, dgN_pre F p p (Nat.le_refl p), e, Nat.pow_zero, Nat.mul_one]
    omega
  | i + 1 => by
    have e : F30 F p (p + 1 + i) = F (p + 1 + i) := if_neg (by omega)
    show dgN (F30 F p) (p + 1 + i + 1) = (dgN F (p + 1 + i + 1) + (30 - F p) * 37 ^ (i + 1)) % 8191
    rw [dgN, dgN, dgN_30 F p hp i, e, Nat.pow_succ, ← Nat.mul_assoc]
    generalize (30 - F p) * 37 ^ i = w
    omega
theorem wt_nat (i : Nat) : rm (nI (37 ^ i % 8191) * 37) 8191 = nI (37 ^ (i + 1) % 8191) := by
  have h := Nat.mod_lt (37 ^ i) (show 0 < 8191 by decide)
  rw [e37, e8191, pk_mul, rm_nat (by omega) (by omega), Nat.pow_succ]
  congr 1
  omega
theorem tn_nat {f : Nat → Int32} {F : Nat → Nat} {p i n : Nat} (hn : n = p + 1 + i) (h : ∀ j, j < n → f j = nI (F j) ∧ F j ≤ 30) : tnF f (dgF f n) (nI (37 ^ i % 8191)) p = nI (dgN (F30 F p) n) := by
  subst hn
  have hp := h p (by omega)
  have h1 := dgN_lt F (p + 1 + i)
  have h2 := Nat.mod_lt (37 ^ i) (show 0 < 8191 by decide)
  have h3 : (30 - F p) * (37 ^ i % 8191) ≤ 30 * 8191 := Nat.mul_le_mul (by omega) (by omega)
  unfold tnF
  rw [dg_nat h, hp.1, show (30 : Int32) = nI 30 from by decide +kernel, pk_sub hp.2, pk_mul, nI_add, e8191, rm_nat (by omega) (by omega), dgN_30 F p hp.2 i]
  congr 1
  rw [Nat.add_mod, Nat.mul_mod, Nat.mod_mod, ← Nat.mul_mod, ← Nat.add_mod]
/-- r is the first place of lo .. hi - 1 at which the change is greatest, -1 if none counts -/
def Gd (nb : Nat → Prop) (C : Nat → Int) (lo hi : Nat) (r : Int32) (B B0 : Int) : Prop := (r = -1 ∧ B = B0 ∧ ∀ p, lo ≤ p → p < hi → ¬ nb p) ∨ ∃ p, lo ≤ p ∧ p < hi ∧ nb p ∧ r = nI p ∧ B = C p ∧ (∀ x, lo ≤ x → x < hi → nb x → C x ≤ C p) ∧ ∀ x, lo ≤ x → x < p → nb x → C x < C p
theorem Gd_one {nb : Nat → Prop} {C : Nat → Int} {lo hi : Nat} {r r' : Int32} {B B0 B' B0' : Int} (h : Gd nb C lo hi r B B0) (h' : Gd nb C lo hi r' B' B0') : r = r' := by
  rcases h with ⟨h1, -, h3⟩ | ⟨p, p1, p2, p3, p4, -, p6, p7⟩
  · rcases h' with ⟨g1, -, -⟩ | ⟨q, q1, q2, q3, -⟩
    · rw [h1, g1]
    · exact absurd q3 (h3 q q1 q2)
  · rcases h' with ⟨-, -, g3⟩ | ⟨q, q1, q2, q3, q4, -, q6, q7⟩
    · exact absurd p3 (g3 p p1 p2)
    · rcases Nat.lt_trichotomy p q with a | a | a
      · have := q7 p p1 a p3
        have := p6 q q1 q2 q3
        omega
      · rw [p4, q4, a]
      · have := p7 q q1 a q3
        have := q6 p p1 p2 p3
        omega
theorem ab_nn {a b : Nat} (ha : a < 8191) (hb : b < 8191) : 0 ≤ (ab (nI a - nI b)).toInt := by
  have h := pk_sub_toInt (a := a) (b := b) (by omega) (by omega)
  unfold ab
  by_cases q : 0 ≤ nI a - nI b
  · rw [if_pos q]
    have := Int32.le_iff_toInt_le.mp q
    rwa [Int32.toInt_zero] at this
  · rw [if_neg q, Int32.toInt_sub, Int32.toInt_zero, h]
    have q2 := Int32.not_le.mp q
    have q3 := Int32.lt_iff_toInt_lt.mp q2
    rw [Int32.toInt_zero, h] at q3
    rw [bm_ok (by omega) (by omega)]
    omega
theorem wm_Gd {f D : Nat → Int32} {d : Int32} : ∀ i, (∀ p, p < i → 0 ≤ (ab (D p - d)).toInt) → Gd (fun p => ¬ f p = 30) (fun p => (ab (D p - d)).toInt) 0 i (wmS f D d i).1 (wmS f D d i).2.toInt (-1)
  | 0, _ => Or.inl ⟨rfl, by show (-1 : Int32).toInt = -1; decide +kernel, fun p _ h => absurd h (Nat.not_lt_zero p)⟩
  | i + 1, h => by
    have ih := wm_Gd (f := f) (D := D) (d := d) i fun p hp => h p (by omega)
    have h0 := h i (by omega)
    rw [wmS]
    by_cases c1 : f i = 30
    · rw [if_pos c1]
      rcases ih with ⟨h1, h2, h3⟩ | ⟨p, p1, p2, p3, p4, p5, p6, p7⟩
      · refine Or.inl ⟨h1, h2, fun p hp hp2 => ?_⟩
        by_cases e : p = i
        · subst e; exact fun z => z c1
        · exact h3 p hp (by omega)
      · refine Or.inr ⟨p, p1, by omega, p3, p4, p5, fun x x1 x2 x3 => ?_, p7⟩
        by_cases e : x = i
        · subst e; exact absurd c1 x3
        · exact p6 x x1 (by omega) x3
    · rw [if_neg c1]
      by_cases c2 : ab (D i - d) ≤ (wmS f D d i).2
      · rw [if_pos c2]
        have c3 := Int32.le_iff_toInt_le.mp c2
        rcases ih with ⟨h1, h2, h3⟩ | ⟨p, p1, p2, p3, p4, p5, p6, p7⟩
        · omega
        · refine Or.inr ⟨p, p1, by omega, p3, p4, p5, fun x x1 x2 x3 => ?_, p7⟩
          by_cases e : x = i
          · subst e; rw [p5] at c3; exact c3
          · exact p6 x x1 (by omega) x3
      · rw [if_neg c2]
        have c3 := Int32.lt_iff_toInt_lt.mp (Int32.not_le.mp c2)
        refine Or.inr ⟨i, Nat.zero_le i, by omega, c1, rfl, rfl, fun x x1 x2 x3 => ?_, fun x x1 x2 x3 => ?_⟩
        · rcases ih with ⟨h1, h2, h3⟩ | ⟨p, p1, p2, p3, p4, p5, p6, p7⟩
          · by_cases e : x = i
            · subst e; exact Int.le_refl _
            · exact absurd x3 (h3 x x1 (by omega))
          · by_cases e : x = i
            · subst e; exact Int.le_refl _
            · have := p6 x x1 (by omega) x3
              rw [p5] at c3
              exact Int.le_of_lt (Int.lt_of_le_of_lt this c3)
        · rcases ih with ⟨h1, h2, h3⟩ | ⟨p, p1, p2, p3, p4, p5, p6, p7⟩
          · exact absurd x3 (h3 x x1 x2)
          · have := p6 x x1 x2 x3
            rw [p5] at c3
            exact Int.lt_of_le_of_lt this c3
theorem wk_w (f : Nat → Int32) (n : Nat) (d : Int32) : ∀ i, (wkS f n d i).2.2 = nI (37 ^ i % 8191)
  | 0 => by show (1 : Int32) = nI (37 ^ 0 % 8191); decide +kernel
  | i + 1 => by
    rw [wkS, ← wt_nat i, ← wk_w f n d i]
    by_cases c : (¬ f (n - 1 - i) = 30) ∧ ¬ ab (tnF f d (wkS f n d i).2.2 (n - 1 - i) - d) < (wkS f n d i).2.1
    · rw [if_pos c]
    · rw [if_neg c]
theorem wk_Gd {f D : Nat → Int32} {n : Nat} {d : Int32} (hT : ∀ p i, n = p + 1 + i → tnF f d (nI (37 ^ i % 8191)) p = D p) (h : ∀ p, p < n → 0 ≤ (ab (D p - d)).toInt) : ∀ i, i ≤ n → Gd (fun p => ¬ f p = 30) (fun p => (ab (D p - d)).toInt) (n - i) n (wkS f n d i).1 (wkS f n d i).2.1.toInt 0
  | 0, _ => Or.inl ⟨rfl, by show (0 : Int32).toInt = 0; exact Int32.toInt_zero, fun p h1 h2 => by omega⟩
  | i + 1, hi => by
    have ih := wk_Gd hT h i (by omega)
    have h0 := h (n - 1 - i) (by omega)
    have e1 : n - (i + 1) = n - 1 - i := by omega
    have ht := hT (n - 1 - i) i (by omega)
    rw [wkS, wk_w, ht, e1]
    by_cases c : (¬ f (n - 1 - i) = 30) ∧ ¬ ab (D (n - 1 - i) - d) < (wkS f n d i).2.1
    · rw [if_pos c]
      have c3 := Int32.le_iff_toInt_le.mp (Int32.not_lt.mp c.2)
      refine Or.inr ⟨n - 1 - i, Nat.le_refl _, by omega, c.1, rfl, rfl, fun x x1 x2 x3 => ?_, fun x x1 x2 => by omega⟩
      by_cases e : x = n - 1 - i
      · subst e; exact Int.le_refl _
      · rcases ih with ⟨g1, g2, g3⟩ | ⟨p, p1, p2, p3, p4, p5, p6, p7⟩
        · exact absurd x3 (g3 x (by omega) x2)
        · have := p6 x (by omega) x2 x3
          rw [p5] at c3
          exact Int.le_trans this c3
    · rw [if_neg c]
      rcases ih with ⟨g1, g2, g3⟩ | ⟨p, p1, p2, p3, p4, p5, p6, p7⟩
      · refine Or.inl ⟨g1, g2, fun x x1 x2 => ?_⟩
        by_cases e : x = n - 1 - i
        · subst e
          refine fun z => c ⟨z, fun q => ?_⟩
          have := Int32.lt_iff_toInt_lt.mp q
          omega
        · exact g3 x (by omega) x2
      · have low : ∀ x, n - 1 - i ≤ x → x < n → ¬ f x = 30 → x = n - 1 - i → (ab (D x - d)).toInt < (ab (D p - d)).toInt := by
          intro x x1 x2 x3 e
          subst e
          have : ab (D (n - 1 - i) - d) < (wkS f n d i).2.1 := Decidable.byContradiction fun q => c ⟨x3, q⟩
          have := Int32.lt_iff_toInt_lt.mp this
          rw [p5] at this
          exact this
        refine Or.inr ⟨p, by omega, p2, p3, p4, p5, fun x x1 x2 x3 => ?_, fun x x1 x2 x3 => ?_⟩
        · by_cases e : x = n - 1 - i
          · exact Int.le_of_lt (low x x1 x2 x3 e)
          · exact p6 x (by omega) x2 x3
        · by_cases e : x = n - 1 - i
          · exact low x x1 (by omega) x3 e
          · exact p7 x (by omega) x2 x3
/-- the class's search and the reference's come to the same place -/
theorem ws_eq {f : Nat → Int32} {F : Nat → Nat} {V : Nat → Nat → Int32} {k n : Nat} (hn : n ≤ 40) (h : ∀ j, j < n → f j = nI (F j) ∧ F j ≤ 30) (hV : ∀ j, j < n → f j = rwV V k j) : (wkS f n (dgF f n) n).1 = (wmS (rwV V k) (fun i => dgF (wdV V k (nI i) 30) n) (dgF (rwV V k) n) n).1 := by
  have hd : dgF (rwV V k) n = nI (dgN F n) := by rw [← dgF_congr hV]; exact dg_nat h
  have hD : ∀ p, p < n → dgF (wdV V k (nI p) 30) n = nI (dgN (F30 F p) n) := by
    intro p hp
    refine dg_nat fun j hj => ?_
    by_cases e : j = p
    · subst e
      refine ⟨?_, by rw [show F30 F j j = 30 from if_pos rfl]; exact Nat.le_refl 30⟩
      rw [wdV_yes rfl, show F30 F j j = 30 from if_pos rfl]
      decide +kernel
    · have e2 : F30 F p j = F j := if_neg e
      rw [e2, wdV_no (fun z => e ((nI_eq (by omega) (by omega)).mp z))]
      exact ⟨by rw [← (h j hj).1, hV j hj], (h j hj).2⟩
  have hnn : ∀ p, p < n → 0 ≤ (ab (dgF (wdV V k (nI p) 30) n - dgF (rwV V k) n)).toInt := fun p hp => by
    rw [hD p hp, hd]
    exact ab_nn (dgN_lt _ _) (dgN_lt _ _)
  have g1 := wm_Gd (f := rwV V k) (D := fun i => dgF (wdV V k (nI i) 30) n) (d := dgF (rwV V k) n) n hnn
  have hdd : dgF f n = dgF (rwV V k) n := dgF_congr hV
  have g2 := wk_Gd (f := f) (D := fun i => dgF (wdV V k (nI i) 30) n) (n := n) (d := dgF (rwV V k) n) (fun p i hp => by
    rw [← hdd, tn_nat hp h]
    exact (hD p (by omega)).symm) hnn n (Nat.le_refl n)
  rw [Nat.sub_self] at g2
  rw [hdd]
  have g2' : Gd (fun p => ¬ rwV V k p = 30) (fun p => (ab (dgF (wdV V k (nI p) 30) n - dgF (rwV V k) n)).toInt) 0 n (wkS f n (dgF (rwV V k) n) n).1 (wkS f n (dgF (rwV V k) n) n).2.1.toInt 0 := by
    rcases g2 with ⟨a1, a2, a3⟩ | ⟨p, p1, p2, p3, p4, p5, p6, p7⟩
    · exact Or.inl ⟨a1, a2, fun p h1 h2 z => a3 p h1 h2 (by show ¬ f p = 30; rw [hV p h2]; exact z)⟩
    · exact Or.inr ⟨p, p1, p2, fun z => p3 (by rw [hV p p2]; exact z), p4, p5, fun x x1 x2 x3 => p6 x x1 x2 (by show ¬ f x = 30; rw [hV x x2]; exact x3), fun x x1 x2 x3 => p7 x x1 x2 (by show ¬ f x = 30; rw [hV x (by omega)]; exact x3)⟩
  exact Gd_one g2' g1
