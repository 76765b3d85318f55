/-! the small machine without fuel: equations -/
theorem fw_ev_mono : ∀ (n k pc : Nat) (ll st : List fw_V) (σ : fw_M) (o : fw_O), fw_ev n k pc ll st σ = some o → fw_ev (n + 1) k pc ll st σ = some o := by
  intro n
  induction n with
  | zero => intro k pc ll st σ o h; cases h
  | succ n ih =>
    intro k pc ll st σ o h
    rw [fw_ev] at h ⊢
    cases hs : fw_s1 k pc ll st σ with
    | none => rw [hs] at h; cases h
    | some act =>
      rw [hs] at h
      match act, h with
      | .inl (pc', ll', st', σ'), h => exact ih _ _ _ _ _ _ h
      | .inr (.inl o'), h => exact h
      | .inr (.inr (c, as, rest)), h =>
        dsimp only at h ⊢
        cases hc : fw_ev n c 0 (fw_en c as) [] σ with
        | none => rw [hc] at h; cases h
        | some o1 =>
          rw [hc] at h
          rw [ih _ _ _ _ _ _ hc]
          dsimp only at h ⊢
          cases ha : fw_af k pc ll rest o1 with
          | none => rw [ha] at h; cases h
          | some r =>
            rw [ha] at h
            match r, h with
            | .inl (pc', ll', st', σ'), h => exact ih _ _ _ _ _ _ h
            | .inr o', h => exact h
theorem fw_ev_le {n m k pc : Nat} {ll st : List fw_V} {σ : fw_M} {o : fw_O} (h : fw_ev n k pc ll st σ = some o) (hm : n ≤ m) : fw_ev m k pc ll st σ = some o := by
  obtain ⟨d, rfl⟩ := Nat.le.dest hm
  induction d with
  | zero => exact h
  | succ d ih => exact fw_ev_mono _ _ _ _ _ _ _ (ih (by omega))
noncomputable def fw_E (k pc : Nat) (ll st : List fw_V) (σ : fw_M) : Option fw_O := @dite _ (∃ (o : fw_O) (n : Nat), fw_ev n k pc ll st σ = some o) (Classical.propDecidable _) (fun h => some (Classical.choose h)) (fun _ => none)
theorem fw_E_of {n k pc : Nat} {ll st : List fw_V} {σ : fw_M} {o : fw_O} (h : fw_ev n k pc ll st σ = some o) : fw_E k pc ll st σ = some o := by
  unfold fw_E
  have hx : ∃ (o : fw_O) (n : Nat), fw_ev n k pc ll st σ = some o := ⟨o, n, h⟩
  rw [dif_pos hx]
  obtain ⟨m, hm⟩ := Classical.choose_spec hx
  have h1 := fw_ev_le h (Nat.le_max_left n m)
  have h2 := fw_ev_le hm (Nat.le_max_right n m)
  exact h2.symm.trans h1
theorem fw_E_to {k pc : Nat} {ll st : List fw_V} {σ : fw_M} {o : fw_O} (h : fw_E k pc ll st σ = some o) : ∃ n : Nat, fw_ev n k pc ll st σ = some o := by
  unfold fw_E at h
  split at h
  · rename_i hx
    cases h
    exact Classical.choose_spec hx
  · cases h
theorem fw_E_ext {k pc k' pc' : Nat} {ll st ll' st' : List fw_V} {σ σ' : fw_M} (h : ∀ o, (∃ n, fw_ev n k pc ll st σ = some o) ↔ ∃ n, fw_ev n k' pc' ll' st' σ' = some o) : fw_E k pc ll st σ = fw_E k' pc' ll' st' σ' := by
  apply Option.ext
  intro o
  constructor
  · intro h1
    obtain ⟨n, hn⟩ := (h o).mp (fw_E_to h1)
    exact fw_E_of hn
  · intro h1
    obtain ⟨n, hn⟩ := (h o).mpr (fw_E_to h1)
    exact fw_E_of hn
theorem fw_E_nx {k pc pc' : Nat} {ll st ll' st' : List fw_V} {σ σ' : fw_M} (h : fw_s1 k pc ll st σ = some (.inl (pc', ll', st', σ'))) : fw_E k pc ll st σ = fw_E k pc' ll' st' σ' := by
  refine fw_E_ext (fun o => ⟨?_, ?_⟩)
  · rintro ⟨n, hn⟩
    match n, hn with
    | 0, hn => cases hn
    | n + 1, hn => rw [fw_ev, h] at hn; exact ⟨n, hn⟩
  · rintro ⟨n, hn⟩
    exact ⟨n + 1, by rw [fw_ev, h]; exact hn⟩
theorem fw_E_fi {k pc : Nat} {ll st : List fw_V} {σ : fw_M} {o : fw_O} (h : fw_s1 k pc ll st σ = some (.inr (.inl o))) : fw_E k pc ll st σ = some o :=
  fw_E_of (n := 1) (by rw [fw_ev, h])
noncomputable def fw_cn (k pc : Nat) (ll rest : List fw_V) (o : fw_O) : Option fw_O := match fw_af k pc ll rest o with
  | none => none
  | some (.inl (pc', ll', st', σ')) => fw_E k pc' ll' st' σ'
  | some (.inr o') => some o'
theorem fw_E_ca {k pc c : Nat} {ll st as rest : List fw_V} {σ : fw_M} (h : fw_s1 k pc ll st σ = some (.inr (.inr (c, as, rest)))) : fw_E k pc ll st σ = (fw_E c 0 (fw_en c as) [] σ).bind (fw_cn k pc ll rest) := by
  apply Option.ext
  intro o
  constructor
  · intro h1
    obtain ⟨n, hn⟩ := fw_E_to h1
    match n, hn with
    | 0, hn => cases hn
    | n + 1, hn =>
      rw [fw_ev, h] at hn
      dsimp only at hn
      cases hc : fw_ev n c 0 (fw_en c as) [] σ with
      | none => rw [hc] at hn; cases hn
      | some o1 =>
        rw [hc] at hn
        rw [fw_E_of hc]
        show fw_cn k pc ll rest o1 = some o
        unfold fw_cn
        dsimp only at hn
        cases ha : fw_af k pc ll rest o1 with
        | none => rw [ha] at hn; cases hn
        | some r =>
          rw [ha] at hn
          match r, hn with
          | .inl (pc', ll', st', σ'), hn => exact fw_E_of hn
          | .inr o', hn => exact hn
  · intro h1
    cases hc : fw_E c 0 (fw_en c as) [] σ with
    | none => rw [hc] at h1; cases h1
    | some o1 =>
      rw [hc] at h1
      obtain ⟨n, hn⟩ := fw_E_to hc
      have h2 : fw_cn k pc ll rest o1 = some o := h1
      unfold fw_cn at h2
      cases ha : fw_af k pc ll rest o1 with
      | none => rw [ha] at h2; cases h2
      | some r =>
        rw [ha] at h2
        match r, ha, h2 with
        | .inl (pc', ll', st', σ'), ha, h2 =>
          obtain ⟨m, hm⟩ := fw_E_to h2
          refine fw_E_of (n := max n m + 1) ?_
          rw [fw_ev, h]
          dsimp only
          rw [fw_ev_le hn (Nat.le_max_left n m)]
          dsimp only
          rw [ha]
          exact fw_ev_le hm (Nat.le_max_right n m)
        | .inr o', ha, h2 =>
          refine fw_E_of (n := n + 1) ?_
          rw [fw_ev, h]
          dsimp only
          rw [hn]
          dsimp only
          rw [ha]
          exact h2
/-! a read of the memory -/
def fw_r (σ : fw_M) (a b : Int) : Int := σ a b
theorem fw_r_u (σ : fw_M) (k j v a b : Int) : fw_r (fw_u σ k j v) a b = if a = k ∧ b = j then v else fw_r σ a b := rfl
theorem fw_r_k (σ : fw_M) {k j v a b : Int} (h : a ≠ k) : fw_r (fw_u σ k j v) a b = fw_r σ a b := by rw [fw_r_u, if_neg (fun h1 => h h1.1)]
theorem fw_r_j (σ : fw_M) {k j v a b : Int} (h : b ≠ j) : fw_r (fw_u σ k j v) a b = fw_r σ a b := by rw [fw_r_u, if_neg (fun h1 => h h1.2)]
theorem fw_r_s (σ : fw_M) (k j v : Int) : fw_r (fw_u σ k j v) k j = v := by rw [fw_r_u, if_pos ⟨rfl, rfl⟩]
theorem fw_r_e (σ : fw_M) {k j v a b : Int} (h : a = k) (h2 : b = j) : fw_r (fw_u σ k j v) a b = v := by rw [fw_r_u, if_pos ⟨h, h2⟩]
theorem fw_r_x (σ : fw_M) (a b : Int) (h : a ≠ -1) : fw_r (fw_ex σ) a b = fw_r σ a b := by
  unfold fw_r fw_ex
  rw [if_neg h]
theorem fw_w_id {x : Int} (h0 : -2147483648 ≤ x) (h1 : x ≤ 2147483647) : fw_w x = x := by
  unfold fw_w; rw [Int.bmod_def]; split <;> omega
theorem fw_wl_id {x : Int} (h0 : -9223372036854775808 ≤ x) (h1 : x ≤ 9223372036854775807) : fw_wl x = x := by
  unfold fw_wl; rw [Int.bmod_def]; split <;> omega
