/-! the contents at the beginning -/
def yW0 (i : Nat) : Int := if i = 0 then 1 else if i = 2 then 1 else if i = 8 then -1 else 0
def yG (s : Nat → Nat → Int) : zG := fun k j i =>
  if k = 1 then (if i = 0 then 1 else if i = 2 then 1 else if i = 7 then -1 else 0)
  else if k = 10 then (if i = 0 then -1 else if i = 3 then -1 else 0)
  else if k = 11 then (if i = 8 then -1 else 0)
  else if k = 12 then (if i = 21 then -1 else 0)
  else if k = 46 then yW0 i
  else if k = 60 then s j i else 0
theorem yW0_at {i : Nat} (h : 8 < i) : yW0 i = 0 := by unfold yW0; rw [if_neg (by omega), if_neg (by omega), if_neg (by omega)]
theorem yG_0 {s : Nat → Nat → Int} {k j i : Nat} (h : k ≠ 1 ∧ k ≠ 10 ∧ k ≠ 11 ∧ k ≠ 12 ∧ k ≠ 46 ∧ k ≠ 60) : yG s k j i = 0 := by
  unfold yG
  rw [if_neg h.1, if_neg h.2.1, if_neg h.2.2.1, if_neg h.2.2.2.1, if_neg h.2.2.2.2.1, if_neg h.2.2.2.2.2]
theorem yG_46 {s : Nat → Nat → Int} : yG s 46 0 = yW0 := rfl
theorem yV0 : VOk yW0 [] := by
  refine VOk.of ?_ (by decide) ⟨by decide, by decide⟩ (fun h => absurd h (by decide)) ?_ ?_ ⟨by decide, by decide⟩ ?_ ?_ (fun _ => rfl)
  · exact ⟨⟨by decide, by decide⟩, fun r hr => absurd (show r < 0 from hr) (Nat.not_lt_zero r)⟩
  · exact ⟨⟨by decide, by decide⟩, ⟨by decide, fun h => absurd h (by decide)⟩, Or.inl rfl, Or.inl rfl⟩
  · intro p hp
    rw [yW0_at (by omega)]
    omega
  · exact ⟨rfl, fun k hk => absurd hk (Nat.not_lt_zero k), fun i hi => absurd hi (Nat.not_lt_zero i)⟩
  · exact ⟨fun l hl => absurd hl List.not_mem_nil, by decide, by decide⟩
theorem yInv {s : Nat → Nat → Int} : Inv s (yG s) := by
  refine ⟨⟨[], 0, 0, fun _ _ => 0, yV0, ?_, ⟨rfl, by omega, fun q hq => by omega⟩, HrAt.no rfl rfl (by omega)⟩, ⟨rfl, Or.inl rfl⟩, ⟨0, ⟨rfl, rfl, by omega⟩, fun i hi => by omega, rfl, by omega, fun i hi => by omega⟩, ⟨rfl, rfl⟩, rfl⟩
  rw [yG_46]
  refine ⟨⟨rfl, fun p hp => ?_⟩, ⟨rfl, fun r hr => ?_, rfl, rfl, rfl⟩, ?_, rfl, ⟨rfl, rfl, rfl, rfl, rfl, rfl, rfl, rfl⟩, ⟨rfl, fun i hi => ?_⟩⟩
  · exact absurd (show (p : Int) < 0 from hp) (by omega)
  · exact absurd (show r < 0 from hr) (Nat.not_lt_zero r)
  · refine ⟨rfl, ⟨rfl, by decide, by decide, fun q hq => absurd hq (Nat.not_lt_zero q)⟩, Or.inl rfl, ⟨fun h => absurd (show (0 : Int) = 1 from h) (by decide), fun h => ?_⟩⟩
    obtain ⟨l, hl, -⟩ := h
    exact absurd hl List.not_mem_nil
  · exact absurd (show (i : Int) < 0 from hi) (by omega)
