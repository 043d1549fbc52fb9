/-! the state behind the constructors -/
def S0 : St := fun a i => if a = 0 then (if i = 2 then -1 else if i = 3 then nI 2 else if i = 4 then nI 17 else 0) else if a = 32 then (if i = 2 then nI 17 else 0) else if a = 130 then (if i = 0 then nI 2 else 0) else if a = 142 then (if i = 2 then nI 143 else if i = 26 then -1 else if i = 41 then -1 else 0) else 0
theorem S0_0 {a i : Nat} (h0 : a ≠ 0) (h1 : a ≠ 32) (h2 : a ≠ 130) (h3 : a ≠ 142) : S0 a i = 0 := by
  unfold S0
  rw [if_neg h0, if_neg h1, if_neg h2, if_neg h3]
def V0 : Vy := ((0, 0), fun _ => 0, fun _ _ => true, fun _ _ => 0, fun _ => 0, fun _ => 0, none, none)
theorem V0_ok : VOk V0 := ⟨by decide, by decide, fun s h => absurd h (Nat.not_lt_zero s), fun h => absurd h (Nat.not_lt_zero _), fun a _ h => absurd h (Nat.not_lt_zero a), fun _ => rfl⟩
theorem nz {P : Prop} {n : Nat} (h : n < 0) : P := absurd h (Nat.not_lt_zero n)
theorem mr_S0 (i : Nat) : mr S0 i = 0 := by
  unfold mr
  split
  · rfl
  · split
    · rfl
    · split
      · exact S0_0 (by decide) (by decide) (by decide) (by decide)
      · split
        · exact S0_0 (by decide) (by decide) (by decide) (by decide)
        · split
          · exact S0_0 (by decide) (by decide) (by decide) (by decide)
          · split
            · exact S0_0 (by decide) (by decide) (by decide) (by decide)
            · exact S0_0 (by decide) (by decide) (by decide) (by decide)
theorem Rel_S0 : Rel S0 := by
  refine ⟨V0, 2, 17, Or.inl ⟨rfl, rfl⟩, rfl, rfl, ⟨?_, ?_, ?_⟩, ?_, ?_, rfl, rfl, Or.inl ⟨rfl, rfl⟩⟩
  · exact ⟨V0_ok, Or.inl rfl, rfl, rfl, fun _ h => nz h, fun _ _ h => nz h, fun _ _ h => nz h, fun _ h => nz h, rfl, rfl⟩
  · exact ⟨V0_ok, rfl, rfl, fun _ h => nz h, fun _ _ h => nz h, fun _ _ h => nz h, fun _ h => nz h, rfl, rfl⟩
  · exact ⟨rfl, fun _ h => nz h, fun _ h => nz h, fun _ h => nz h, fun _ _ => 0, fun _ _ h => nz h, fun _ h => nz h, fun _ _ _ h => nz h, fun _ _ h => nz h⟩
  · refine ⟨fun i _ => ?_, ⟨⟨0, by decide, rfl⟩, fun _ h => nz h, fun _ h => nz h, fun _ _ h => nz h, fun _ _ h => nz h, fun _ h => nz h⟩, ⟨0, fun _ _ => 0, by decide, ⟨0, by decide, rfl, rfl, fun _ h => nz h⟩, ⟨rfl, fun _ h => nz h⟩, fun _ h => nz h⟩, ⟨0, by decide, rfl, rfl, fun _ h => nz h⟩, fun i _ => ?_⟩
    · rw [mr_S0]; exact S0_0 (by decide) (by decide) (by decide) (by decide)
    · exact (S0_0 (by decide) (by decide) (by decide) (by decide)).trans (S0_0 (by decide) (by decide) (by decide) (by decide)).symm
  · exact ⟨0, by decide, rfl, rfl, fun _ h => nz h⟩
