/-! the small machine without fuel: equations -/
theorem fw_ev_mono : ∀ (n k pc : Nat) (ll st : List fw_V) (σ : fw_M) (o : fw_O), fw_ev n k pc ll st σ = some o → fw_ev (n + 1) k pc ll st σ = some o := by
  intro n
  induction n with
  | zero => intro k pc ll st σ o h; cases h
  | succ n ih =>
    intro k pc ll st σ o h
    rw [fw_ev] at h ⊢
    cases hs : fw_s1 k pc ll st σ with
    | none => rw [hs] at h; cases h
    | some act =>
      rw [hs] at h
      match act, h with
      | .inl (pc', ll', st', σ'), h => exact ih _ _ _ _ _ _ h
      | .inr (.inl o'), h => exact h
      | .inr (.inr (c, as, rest)), h =>
        dsimp only at h ⊢
        cases hc : fw_ev n c 0 (fw_en c as) [] σ with
        | none => rw [hc] at h; cases h
        | some o1 =>
          rw [hc] at h
          rw [ih _ _ _ _ _ _ hc]
          dsimp only at h ⊢
          cases ha : fw_af k pc ll rest o1 with
          | none => rw [ha] at h; cases h
          | some r =>
            rw [ha] at h
            match r, h with
            | .inl (pc', ll', st', σ'), h => exact ih _ _ _ _ _ _ h
            | .inr o', h => exact h
theorem fw_ev_le {n m k pc : Nat} {ll st : List fw_V} {σ : fw_M} {o : fw_O} (h : fw_ev n k pc ll st σ = some o) (hm : n ≤ m) : fw_ev m k pc ll st σ = some o := by
  obtain ⟨d, rfl⟩ := Nat.le.dest hm
  induction d with
  | zero => exact h
  | succ d ih => exact fw_ev_mono _ _ _ _ _ _ _ (ih (by omega))
noncomputable def fw_E (k pc : Nat) (ll st : List fw_V) (σ : fw_M) : Option fw_O := open Classical in if h : ∃ (o : fw_O) (n : Nat), fw_ev n k pc ll st σ = some o then some (Classical.choose h) else none
