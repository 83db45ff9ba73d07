/-! THE LAW'S ENTRY, fifth: the walk to the loop -/
theorem op_blind {g : gT} {av : List Value} {sz : Nat} {ws : va_W} : FrameBlind (va_Pc av (fun U => U.heap.size = sz ∧ KK g U ∧ va_P (gD g) vwCl ws U.heap ∧ va_AO RX1 U ∧ va_AO RX0 U)) := fun a U f mk h => ⟨h.1, h.2.1, h.2.2.1.calling, h.2.2.2.1, va_AO.moved (u := U) (U := U.calling f mk a) (Vm.Alike.refl U.vm) h.2.2.2.2.1, va_AO.moved (u := U) (U := U.calling f mk a) (Vm.Alike.refl U.vm) h.2.2.2.2.2⟩
theorem LD_of {g : gT} {A : Nat → Prop} {AD : Nat → Nat} {h : Nat} {X : Nat → Nat} {ou : Nat} {LL : Nat → ltT} {EE : Nat → evT} {lc ec lc2 ec2 : Nat} {V : Nat → Nat → Int32} {th : Int32} {v : Int64} (hD : va_D A ((wsD g AD LL EE lc ec ++ mdW g h X V th lc2 ec2) ++ outW g ou v)) : LD g A AD h X ou := by
  have len : (wsD g AD LL EE lc ec).length = 87 := by unfold wsD; rw [List.length_map, List.length_range]
  have i1 : ∀ k, k < 87 → ∃ e, ((wsD g AD LL EE lc ec ++ mdW g h X V th lc2 ec2) ++ outW g ou v)[k]? = some (AD k, e) := fun k hk => ⟨dkE g AD LL EE lc ec k, by rw [List.getElem?_append_left (by rw [List.length_append, len]; omega), List.getElem?_append_left (by rw [len]; exact hk), wsD_at hk]⟩
  have i2 : ∀ (k : Nat) (x : Nat × va_E), (mdW g h X V th lc2 ec2)[k]? = some x → ((wsD g AD LL EE lc ec ++ mdW g h X V th lc2 ec2) ++ outW g ou v)[87 + k]? = some x := fun k x hx => by
    have hk := (List.getElem?_eq_some_iff.mp hx).1
    rw [List.getElem?_append_left (by rw [List.length_append, len]; omega), List.getElem?_append_right (by rw [len]; omega), len, Nat.add_sub_cancel_left, hx]
  have i3 : ((wsD g AD LL EE lc ec ++ mdW g h X V th lc2 ec2) ++ outW g ou v)[97]? = some (ou, .inl (gJ g, 1, .inr (.inl (fun _ => v)))) := by
    rw [List.getElem?_append_right (by rw [List.length_append, len]; exact Nat.le_refl 97), List.length_append, len]
    rfl
  have m1 : ∀ q, mdA h X q → ∃ (k : Nat) (x : Nat × va_E), k < 10 ∧ x.1 = q ∧ (mdW g h X V th lc2 ec2)[k]? = some x := by
    rintro q (rfl | ⟨j, hj, rfl⟩)
    · exact ⟨0, _, by decide, rfl, rfl⟩
    · match j, hj with
      | 0, _ => exact ⟨1, _, by decide, rfl, rfl⟩
      | 1, _ => exact ⟨2, _, by decide, rfl, rfl⟩
      | 2, _ => exact ⟨3, _, by decide, rfl, rfl⟩
      | 3, _ => exact ⟨4, _, by decide, rfl, rfl⟩
      | 4, _ => exact ⟨5, _, by decide, rfl, rfl⟩
      | 5, _ => exact ⟨6, _, by decide, rfl, rfl⟩
      | 6, _ => exact ⟨7, _, by decide, rfl, rfl⟩
      | 7, _ => exact ⟨8, _, by decide, rfl, rfl⟩
      | 8, _ => exact ⟨9, _, by decide, rfl, rfl⟩
  have hm : va_D A (mdW g h X V th lc2 ec2) := ⟨fun i j a b ha hb e => by have := hD.1 _ _ a b (i2 i a ha) (i2 j b hb) e; omega, fun k x hx => hD.2 _ x (i2 k x hx)⟩
  refine ⟨fun LL EE lc ec => dk_D (fun j k hj hk e => ?_) (fun k hk => ?_), fun V2 th2 l2 e2 => D_same hm rfl, fun k hk hz => ?_, fun k hk e => ?_, fun hz => ?_, hD.2 97 _ i3⟩
  · obtain ⟨e1, h1⟩ := i1 j hj
    obtain ⟨e2, h2⟩ := i1 k hk
    exact hD.1 j k _ _ h1 h2 e
  · obtain ⟨e1, h1⟩ := i1 k hk
    exact hD.2 k _ h1
  · obtain ⟨j, x, hj, hx, hj2⟩ := m1 _ hz
    obtain ⟨e1, h1⟩ := i1 k hk
    have := hD.1 k (87 + j) _ _ h1 (i2 j x hj2) hx.symm
    omega
  · obtain ⟨e1, h1⟩ := i1 k hk
    have := hD.1 k 97 _ _ h1 i3 e
    omega
  · obtain ⟨j, x, hj, hx, hj2⟩ := m1 _ hz
    have := hD.1 (87 + j) 97 _ _ (i2 j x hj2) i3 hx
    omega
theorem Inv_0 : Inv L0 E0 (fun _ => 0) 0 0 (fun _ _ => 0) := ⟨by decide, by decide, fun i _ => by show (0 : Nat) ≤ 40; decide, fun i _ _ => rfl, fun i hi => absurd hi (Nat.not_lt_zero i), fun q hq => absurd hq (Nat.not_lt_zero q)⟩
