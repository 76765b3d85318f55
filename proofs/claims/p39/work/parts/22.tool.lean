/-! runs, and what they leave -/
def fg_P (x : Option fw_O) (Q : fw_V → fw_M → Prop) : Prop := ∃ v σ', x = some (v, σ') ∧ Q v σ'
theorem fg_P_some (v : fw_V) (σ : fw_M) (Q : fw_V → fw_M → Prop) : fg_P (some (v, σ)) Q = Q v σ := by
  apply propext
  constructor
  · rintro ⟨v', σ', h, hq⟩
    cases h
    exact hq
  · exact fun h => ⟨v, σ, rfl, h⟩
theorem fg_P_if {c : Prop} [Decidable c] {a b : Option fw_O} {Q : fw_V → fw_M → Prop} (h1 : c → fg_P a Q) (h2 : ¬c → fg_P b Q) : fg_P (if c then a else b) Q := by
  by_cases h : c
  · rw [if_pos h]; exact h1 h
  · rw [if_neg h]; exact h2 h
theorem fg_P_bind (x : Option fw_O) (f : fw_O → Option fw_O) (Q : fw_V → fw_M → Prop) : fg_P (x.bind f) Q = fg_P x (fun v σ => fg_P (f (v, σ)) Q) := by
  apply propext
  constructor
  · rintro ⟨v, σ', h, hq⟩
    cases x with
    | none => cases h
    | some o => exact ⟨o.1, o.2, rfl, v, σ', h, hq⟩
  · rintro ⟨v, σ', rfl, v2, σ2, h2, hq⟩
    exact ⟨v2, σ2, h2, hq⟩
theorem fg_P_mono {x : Option fw_O} {Q R : fw_V → fw_M → Prop} (h : fg_P x Q) (hh : ∀ v σ, Q v σ → R v σ) : fg_P x R := by
  obtain ⟨v, σ', h1, h2⟩ := h
  exact ⟨v, σ', h1, hh _ _ h2⟩
theorem fw_bs (o : fw_O) (f : fw_O → Option fw_O) : (some o).bind f = f o := rfl
theorem fw_b01 (c : Prop) [Decidable c] : ((if c then (1 : Int) else 0) = 0) = ¬c := by
  apply propext
  split <;> simp_all
theorem fw_b10 (c : Prop) [Decidable c] : ((if c then (0 : Int) else 1) = 0) = c := by
  apply propext
  split <;> simp_all
theorem fw_if_not {α : Type} (c : Prop) [Decidable c] (a b : α) : (if ¬c then a else b) = if c then b else a := by
  split <;> simp_all
theorem fw_ptr_u (σ : fw_M) {k j : Int} (v : Int) (h : ∀ q ∈ fw_psT, ¬(q.1 = k ∧ q.2.1 = j)) : fw_ptr (fw_u σ k j v) = fw_ptr σ := by
  apply propext
  constructor
  · intro hp q hq
    have h1 := hp q hq
    rwa [fw_r_u, if_neg (h q hq)] at h1
  · intro hp q hq
    rw [fw_r_u, if_neg (h q hq)]
    exact hp q hq
theorem fw_ptr_ua (σ : fw_M) {k j : Int} (v : Int) (h : ∀ q ∈ fw_psT, q.1 ≠ k) : fw_ptr (fw_u σ k j v) = fw_ptr σ := fw_ptr_u σ v (fun q hq hc => h q hq hc.1)
theorem fl_ptr_u (σ : fw_M) {k j : Int} (v : Int) (h : ∀ q ∈ fl_psT, ¬(q.1 = k ∧ q.2.1 = j)) : fl_ptr (fw_u σ k j v) = fl_ptr σ := by
  apply propext
  constructor
  · intro hp q hq
    have h1 := hp q hq
    rwa [fw_r_u, if_neg (h q hq)] at h1
  · intro hp q hq
    rw [fw_r_u, if_neg (h q hq)]
    exact hp q hq
theorem fl_ptr_ua (σ : fw_M) {k j : Int} (v : Int) (h : ∀ q ∈ fl_psT, q.1 ≠ k) : fl_ptr (fw_u σ k j v) = fl_ptr σ := fl_ptr_u σ v (fun q hq hc => h q hq hc.1)
theorem fl_ps_le : ∀ q ∈ fl_psT, q.1 = 32 ∨ q.1 = 37 := by decide
theorem fl_ptr_hi (σ : fw_M) {k j v : Int} (h : 37 < k) : fl_ptr (fw_u σ k j v) = fl_ptr σ := fl_ptr_ua σ v (fun q hq hc => by have := fl_ps_le q hq; omega)
theorem fl_ptr_lo (σ : fw_M) {k j v : Int} (h : k < 32) : fl_ptr (fw_u σ k j v) = fl_ptr σ := fl_ptr_ua σ v (fun q hq hc => by have := fl_ps_le q hq; omega)
theorem fl_ptr_in (σ : fw_M) {c j v : Int} (h : 0 ≤ c) : fl_ptr (fw_u σ (38 + c) j v) = fl_ptr σ := fl_ptr_hi σ (by omega)
theorem fl_ptr_x (σ : fw_M) : fl_ptr (fw_ex σ) = fl_ptr σ := by
  apply propext
  constructor
  · intro hp q hq
    have h1 := hp q hq
    rwa [fw_r_x _ _ _ (by have := fl_ps_le q hq; omega)] at h1
  · intro hp q hq
    rw [fw_r_x _ _ _ (by have := fl_ps_le q hq; omega)]
    exact hp q hq
theorem fw_ps_le : ∀ q ∈ fw_psT, 0 < q.1 ∧ q.1 ≤ 50 := by decide
theorem fw_ptr_hi (σ : fw_M) {k j v : Int} (h : 50 < k) : fw_ptr (fw_u σ k j v) = fw_ptr σ := fw_ptr_ua σ v (fun q hq hc => by have := fw_ps_le q hq; omega)
theorem fw_ptr_x (σ : fw_M) : fw_ptr (fw_ex σ) = fw_ptr σ := by
  apply propext
  constructor
  · intro hp q hq
    have h1 := hp q hq
    rwa [fw_r_x _ _ _ (by have := fw_ps_le q hq; omega)] at h1
  · intro hp q hq
    rw [fw_r_x _ _ _ (by have := fw_ps_le q hq; omega)]
    exact hp q hq
theorem fw_ptr_32_0 (σ : fw_M) (v : Int) : fw_ptr (fw_u σ 32 0 v) = fw_ptr σ := fw_ptr_u σ v (fun q hq => by revert q; decide)
theorem fl_ptr_32_0 (σ : fw_M) (v : Int) : fl_ptr (fw_u σ 32 0 v) = fl_ptr σ := fl_ptr_u σ v (fun q hq => by revert q; decide)
theorem fw_ptr_32_1 (σ : fw_M) (v : Int) : fw_ptr (fw_u σ 32 1 v) = fw_ptr σ := fw_ptr_u σ v (fun q hq => by revert q; decide)
theorem fl_ptr_32_1 (σ : fw_M) (v : Int) : fl_ptr (fw_u σ 32 1 v) = fl_ptr σ := fl_ptr_u σ v (fun q hq => by revert q; decide)
theorem fw_ptr_32_2 (σ : fw_M) (v : Int) : fw_ptr (fw_u σ 32 2 v) = fw_ptr σ := fw_ptr_u σ v (fun q hq => by revert q; decide)
theorem fw_ptr_32_3 (σ : fw_M) (v : Int) : fw_ptr (fw_u σ 32 3 v) = fw_ptr σ := fw_ptr_u σ v (fun q hq => by revert q; decide)
theorem fw_ptr_32_4 (σ : fw_M) (v : Int) : fw_ptr (fw_u σ 32 4 v) = fw_ptr σ := fw_ptr_u σ v (fun q hq => by revert q; decide)
theorem fw_ptr_32_5 (σ : fw_M) (v : Int) : fw_ptr (fw_u σ 32 5 v) = fw_ptr σ := fw_ptr_u σ v (fun q hq => by revert q; decide)
theorem fl_ptr_32_5 (σ : fw_M) (v : Int) : fl_ptr (fw_u σ 32 5 v) = fl_ptr σ := fl_ptr_u σ v (fun q hq => by revert q; decide)
theorem fw_ptr_32_6 (σ : fw_M) (v : Int) : fw_ptr (fw_u σ 32 6 v) = fw_ptr σ := fw_ptr_u σ v (fun q hq => by revert q; decide)
theorem fw_ptr_32_7 (σ : fw_M) (v : Int) : fw_ptr (fw_u σ 32 7 v) = fw_ptr σ := fw_ptr_u σ v (fun q hq => by revert q; decide)
theorem fw_ptr_32_8 (σ : fw_M) (v : Int) : fw_ptr (fw_u σ 32 8 v) = fw_ptr σ := fw_ptr_u σ v (fun q hq => by revert q; decide)
theorem fw_ptr_32_9 (σ : fw_M) (v : Int) : fw_ptr (fw_u σ 32 9 v) = fw_ptr σ := fw_ptr_u σ v (fun q hq => by revert q; decide)
theorem fw_ptr_32_10 (σ : fw_M) (v : Int) : fw_ptr (fw_u σ 32 10 v) = fw_ptr σ := fw_ptr_u σ v (fun q hq => by revert q; decide)
theorem fl_ptr_32_10 (σ : fw_M) (v : Int) : fl_ptr (fw_u σ 32 10 v) = fl_ptr σ := fl_ptr_u σ v (fun q hq => by revert q; decide)
theorem fw_ptr_32_11 (σ : fw_M) (v : Int) : fw_ptr (fw_u σ 32 11 v) = fw_ptr σ := fw_ptr_u σ v (fun q hq => by revert q; decide)
theorem fl_ptr_32_11 (σ : fw_M) (v : Int) : fl_ptr (fw_u σ 32 11 v) = fl_ptr σ := fl_ptr_u σ v (fun q hq => by revert q; decide)
theorem fw_ptr_32_12 (σ : fw_M) (v : Int) : fw_ptr (fw_u σ 32 12 v) = fw_ptr σ := fw_ptr_u σ v (fun q hq => by revert q; decide)
theorem fw_ptr_32_13 (σ : fw_M) (v : Int) : fw_ptr (fw_u σ 32 13 v) = fw_ptr σ := fw_ptr_u σ v (fun q hq => by revert q; decide)
theorem fw_ptr_32_14 (σ : fw_M) (v : Int) : fw_ptr (fw_u σ 32 14 v) = fw_ptr σ := fw_ptr_u σ v (fun q hq => by revert q; decide)
theorem fw_ptr_32_15 (σ : fw_M) (v : Int) : fw_ptr (fw_u σ 32 15 v) = fw_ptr σ := fw_ptr_u σ v (fun q hq => by revert q; decide)
theorem fw_ptr_32_16 (σ : fw_M) (v : Int) : fw_ptr (fw_u σ 32 16 v) = fw_ptr σ := fw_ptr_u σ v (fun q hq => by revert q; decide)
theorem fw_ptr_32_17 (σ : fw_M) (v : Int) : fw_ptr (fw_u σ 32 17 v) = fw_ptr σ := fw_ptr_u σ v (fun q hq => by revert q; decide)
theorem fl_ptr_32_17 (σ : fw_M) (v : Int) : fl_ptr (fw_u σ 32 17 v) = fl_ptr σ := fl_ptr_u σ v (fun q hq => by revert q; decide)
theorem fw_ptr_32_18 (σ : fw_M) (v : Int) : fw_ptr (fw_u σ 32 18 v) = fw_ptr σ := fw_ptr_u σ v (fun q hq => by revert q; decide)
theorem fl_ptr_32_18 (σ : fw_M) (v : Int) : fl_ptr (fw_u σ 32 18 v) = fl_ptr σ := fl_ptr_u σ v (fun q hq => by revert q; decide)
theorem fw_ptr_32_19 (σ : fw_M) (v : Int) : fw_ptr (fw_u σ 32 19 v) = fw_ptr σ := fw_ptr_u σ v (fun q hq => by revert q; decide)
theorem fl_ptr_32_19 (σ : fw_M) (v : Int) : fl_ptr (fw_u σ 32 19 v) = fl_ptr σ := fl_ptr_u σ v (fun q hq => by revert q; decide)
theorem fw_ptr_32_20 (σ : fw_M) (v : Int) : fw_ptr (fw_u σ 32 20 v) = fw_ptr σ := fw_ptr_u σ v (fun q hq => by revert q; decide)
theorem fl_ptr_32_20 (σ : fw_M) (v : Int) : fl_ptr (fw_u σ 32 20 v) = fl_ptr σ := fl_ptr_u σ v (fun q hq => by revert q; decide)
theorem fw_ptr_32_21 (σ : fw_M) (v : Int) : fw_ptr (fw_u σ 32 21 v) = fw_ptr σ := fw_ptr_u σ v (fun q hq => by revert q; decide)
theorem fl_ptr_32_21 (σ : fw_M) (v : Int) : fl_ptr (fw_u σ 32 21 v) = fl_ptr σ := fl_ptr_u σ v (fun q hq => by revert q; decide)
theorem fw_ptr_32_22 (σ : fw_M) (v : Int) : fw_ptr (fw_u σ 32 22 v) = fw_ptr σ := fw_ptr_u σ v (fun q hq => by revert q; decide)
theorem fl_ptr_32_22 (σ : fw_M) (v : Int) : fl_ptr (fw_u σ 32 22 v) = fl_ptr σ := fl_ptr_u σ v (fun q hq => by revert q; decide)
theorem fw_ptr_32_23 (σ : fw_M) (v : Int) : fw_ptr (fw_u σ 32 23 v) = fw_ptr σ := fw_ptr_u σ v (fun q hq => by revert q; decide)
theorem fw_ptr_32_24 (σ : fw_M) (v : Int) : fw_ptr (fw_u σ 32 24 v) = fw_ptr σ := fw_ptr_u σ v (fun q hq => by revert q; decide)
theorem fw_ptr_32_25 (σ : fw_M) (v : Int) : fw_ptr (fw_u σ 32 25 v) = fw_ptr σ := fw_ptr_u σ v (fun q hq => by revert q; decide)
theorem fw_ptr_32_26 (σ : fw_M) (v : Int) : fw_ptr (fw_u σ 32 26 v) = fw_ptr σ := fw_ptr_u σ v (fun q hq => by revert q; decide)
theorem fw_ptr_32_27 (σ : fw_M) (v : Int) : fw_ptr (fw_u σ 32 27 v) = fw_ptr σ := fw_ptr_u σ v (fun q hq => by revert q; decide)
theorem fw_ptr_32_28 (σ : fw_M) (v : Int) : fw_ptr (fw_u σ 32 28 v) = fw_ptr σ := fw_ptr_u σ v (fun q hq => by revert q; decide)
theorem fw_ptr_32_29 (σ : fw_M) (v : Int) : fw_ptr (fw_u σ 32 29 v) = fw_ptr σ := fw_ptr_u σ v (fun q hq => by revert q; decide)
theorem fw_ptr_32_30 (σ : fw_M) (v : Int) : fw_ptr (fw_u σ 32 30 v) = fw_ptr σ := fw_ptr_u σ v (fun q hq => by revert q; decide)
theorem fw_ptr_32_31 (σ : fw_M) (v : Int) : fw_ptr (fw_u σ 32 31 v) = fw_ptr σ := fw_ptr_u σ v (fun q hq => by revert q; decide)
theorem fw_ptr_32_32 (σ : fw_M) (v : Int) : fw_ptr (fw_u σ 32 32 v) = fw_ptr σ := fw_ptr_u σ v (fun q hq => by revert q; decide)
theorem fw_ptr_32_33 (σ : fw_M) (v : Int) : fw_ptr (fw_u σ 32 33 v) = fw_ptr σ := fw_ptr_u σ v (fun q hq => by revert q; decide)
theorem fw_ptr_32_34 (σ : fw_M) (v : Int) : fw_ptr (fw_u σ 32 34 v) = fw_ptr σ := fw_ptr_u σ v (fun q hq => by revert q; decide)
theorem fw_ptr_32_35 (σ : fw_M) (v : Int) : fw_ptr (fw_u σ 32 35 v) = fw_ptr σ := fw_ptr_u σ v (fun q hq => by revert q; decide)
theorem fw_ptr_1_8 (σ : fw_M) (v : Int) : fw_ptr (fw_u σ 1 8 v) = fw_ptr σ := fw_ptr_u σ v (fun q hq => by revert q; decide)
theorem fw_ptr_2_5 (σ : fw_M) (v : Int) : fw_ptr (fw_u σ 2 5 v) = fw_ptr σ := fw_ptr_u σ v (fun q hq => by revert q; decide)
theorem fw_ptr_2_6 (σ : fw_M) (v : Int) : fw_ptr (fw_u σ 2 6 v) = fw_ptr σ := fw_ptr_u σ v (fun q hq => by revert q; decide)
theorem fw_ptr_2_7 (σ : fw_M) (v : Int) : fw_ptr (fw_u σ 2 7 v) = fw_ptr σ := fw_ptr_u σ v (fun q hq => by revert q; decide)
theorem fw_ptr_2_8 (σ : fw_M) (v : Int) : fw_ptr (fw_u σ 2 8 v) = fw_ptr σ := fw_ptr_u σ v (fun q hq => by revert q; decide)
theorem fw_ptr_2_9 (σ : fw_M) (v : Int) : fw_ptr (fw_u σ 2 9 v) = fw_ptr σ := fw_ptr_u σ v (fun q hq => by revert q; decide)
theorem fw_ptr_8_2 (σ : fw_M) (v : Int) : fw_ptr (fw_u σ 8 2 v) = fw_ptr σ := fw_ptr_u σ v (fun q hq => by revert q; decide)
theorem fw_ptr_8_3 (σ : fw_M) (v : Int) : fw_ptr (fw_u σ 8 3 v) = fw_ptr σ := fw_ptr_u σ v (fun q hq => by revert q; decide)
theorem fw_ptr_11_2 (σ : fw_M) (v : Int) : fw_ptr (fw_u σ 11 2 v) = fw_ptr σ := fw_ptr_u σ v (fun q hq => by revert q; decide)
theorem fw_ptr_11_3 (σ : fw_M) (v : Int) : fw_ptr (fw_u σ 11 3 v) = fw_ptr σ := fw_ptr_u σ v (fun q hq => by revert q; decide)
theorem fw_ptr_11_4 (σ : fw_M) (v : Int) : fw_ptr (fw_u σ 11 4 v) = fw_ptr σ := fw_ptr_u σ v (fun q hq => by revert q; decide)
theorem fw_ptr_11_5 (σ : fw_M) (v : Int) : fw_ptr (fw_u σ 11 5 v) = fw_ptr σ := fw_ptr_u σ v (fun q hq => by revert q; decide)
theorem fw_ptr_11_6 (σ : fw_M) (v : Int) : fw_ptr (fw_u σ 11 6 v) = fw_ptr σ := fw_ptr_u σ v (fun q hq => by revert q; decide)
theorem fw_ptr_17_8 (σ : fw_M) (v : Int) : fw_ptr (fw_u σ 17 8 v) = fw_ptr σ := fw_ptr_u σ v (fun q hq => by revert q; decide)
theorem fw_ptr_18_2 (σ : fw_M) (v : Int) : fw_ptr (fw_u σ 18 2 v) = fw_ptr σ := fw_ptr_u σ v (fun q hq => by revert q; decide)
theorem fw_ptr_18_3 (σ : fw_M) (v : Int) : fw_ptr (fw_u σ 18 3 v) = fw_ptr σ := fw_ptr_u σ v (fun q hq => by revert q; decide)
theorem fw_ptr_25_1 (σ : fw_M) (v : Int) : fw_ptr (fw_u σ 25 1 v) = fw_ptr σ := fw_ptr_u σ v (fun q hq => by revert q; decide)
theorem fw_ptr_27_2 (σ : fw_M) (v : Int) : fw_ptr (fw_u σ 27 2 v) = fw_ptr σ := fw_ptr_u σ v (fun q hq => by revert q; decide)
theorem fw_ptr_28_1 (σ : fw_M) (v : Int) : fw_ptr (fw_u σ 28 1 v) = fw_ptr σ := fw_ptr_u σ v (fun q hq => by revert q; decide)
theorem fl_ptr_33 (σ : fw_M) (j v : Int) : fl_ptr (fw_u σ 33 j v) = fl_ptr σ := fl_ptr_ua σ v (fun q hq => by revert q; decide)
theorem fl_ptr_34 (σ : fw_M) (j v : Int) : fl_ptr (fw_u σ 34 j v) = fl_ptr σ := fl_ptr_ua σ v (fun q hq => by revert q; decide)
theorem fl_ptr_35 (σ : fw_M) (j v : Int) : fl_ptr (fw_u σ 35 j v) = fl_ptr σ := fl_ptr_ua σ v (fun q hq => by revert q; decide)
theorem fl_ptr_36 (σ : fw_M) (j v : Int) : fl_ptr (fw_u σ 36 j v) = fl_ptr σ := fl_ptr_ua σ v (fun q hq => by revert q; decide)
theorem fl_ptr_38 (σ : fw_M) (j v : Int) : fl_ptr (fw_u σ 38 j v) = fl_ptr σ := fl_ptr_ua σ v (fun q hq => by revert q; decide)
theorem fl_ptr_39 (σ : fw_M) (j v : Int) : fl_ptr (fw_u σ 39 j v) = fl_ptr σ := fl_ptr_ua σ v (fun q hq => by revert q; decide)
theorem fl_ptr_40 (σ : fw_M) (j v : Int) : fl_ptr (fw_u σ 40 j v) = fl_ptr σ := fl_ptr_ua σ v (fun q hq => by revert q; decide)
theorem fl_ptr_41 (σ : fw_M) (j v : Int) : fl_ptr (fw_u σ 41 j v) = fl_ptr σ := fl_ptr_ua σ v (fun q hq => by revert q; decide)
theorem fl_ptr_42 (σ : fw_M) (j v : Int) : fl_ptr (fw_u σ 42 j v) = fl_ptr σ := fl_ptr_ua σ v (fun q hq => by revert q; decide)
theorem fl_ptr_43 (σ : fw_M) (j v : Int) : fl_ptr (fw_u σ 43 j v) = fl_ptr σ := fl_ptr_ua σ v (fun q hq => by revert q; decide)
theorem fl_ptr_44 (σ : fw_M) (j v : Int) : fl_ptr (fw_u σ 44 j v) = fl_ptr σ := fl_ptr_ua σ v (fun q hq => by revert q; decide)
theorem fl_ptr_45 (σ : fw_M) (j v : Int) : fl_ptr (fw_u σ 45 j v) = fl_ptr σ := fl_ptr_ua σ v (fun q hq => by revert q; decide)
theorem fl_ptr_46 (σ : fw_M) (j v : Int) : fl_ptr (fw_u σ 46 j v) = fl_ptr σ := fl_ptr_ua σ v (fun q hq => by revert q; decide)
theorem fl_ptr_47 (σ : fw_M) (j v : Int) : fl_ptr (fw_u σ 47 j v) = fl_ptr σ := fl_ptr_ua σ v (fun q hq => by revert q; decide)
theorem fl_ptr_48 (σ : fw_M) (j v : Int) : fl_ptr (fw_u σ 48 j v) = fl_ptr σ := fl_ptr_ua σ v (fun q hq => by revert q; decide)
theorem fl_ptr_49 (σ : fw_M) (j v : Int) : fl_ptr (fw_u σ 49 j v) = fl_ptr σ := fl_ptr_ua σ v (fun q hq => by revert q; decide)
theorem fl_ptr_50 (σ : fw_M) (j v : Int) : fl_ptr (fw_u σ 50 j v) = fl_ptr σ := fl_ptr_ua σ v (fun q hq => by revert q; decide)
theorem fw_ptr_3 (σ : fw_M) (j v : Int) : fw_ptr (fw_u σ 3 j v) = fw_ptr σ := fw_ptr_ua σ v (fun q hq => by revert q; decide)
theorem fw_ptr_4 (σ : fw_M) (j v : Int) : fw_ptr (fw_u σ 4 j v) = fw_ptr σ := fw_ptr_ua σ v (fun q hq => by revert q; decide)
theorem fw_ptr_5 (σ : fw_M) (j v : Int) : fw_ptr (fw_u σ 5 j v) = fw_ptr σ := fw_ptr_ua σ v (fun q hq => by revert q; decide)
theorem fw_ptr_6 (σ : fw_M) (j v : Int) : fw_ptr (fw_u σ 6 j v) = fw_ptr σ := fw_ptr_ua σ v (fun q hq => by revert q; decide)
theorem fw_ptr_7 (σ : fw_M) (j v : Int) : fw_ptr (fw_u σ 7 j v) = fw_ptr σ := fw_ptr_ua σ v (fun q hq => by revert q; decide)
theorem fw_ptr_9 (σ : fw_M) (j v : Int) : fw_ptr (fw_u σ 9 j v) = fw_ptr σ := fw_ptr_ua σ v (fun q hq => by revert q; decide)
theorem fw_ptr_10 (σ : fw_M) (j v : Int) : fw_ptr (fw_u σ 10 j v) = fw_ptr σ := fw_ptr_ua σ v (fun q hq => by revert q; decide)
theorem fw_ptr_13 (σ : fw_M) (j v : Int) : fw_ptr (fw_u σ 13 j v) = fw_ptr σ := fw_ptr_ua σ v (fun q hq => by revert q; decide)
theorem fw_ptr_15 (σ : fw_M) (j v : Int) : fw_ptr (fw_u σ 15 j v) = fw_ptr σ := fw_ptr_ua σ v (fun q hq => by revert q; decide)
theorem fw_ptr_16 (σ : fw_M) (j v : Int) : fw_ptr (fw_u σ 16 j v) = fw_ptr σ := fw_ptr_ua σ v (fun q hq => by revert q; decide)
theorem fw_ptr_19 (σ : fw_M) (j v : Int) : fw_ptr (fw_u σ 19 j v) = fw_ptr σ := fw_ptr_ua σ v (fun q hq => by revert q; decide)
theorem fw_ptr_20 (σ : fw_M) (j v : Int) : fw_ptr (fw_u σ 20 j v) = fw_ptr σ := fw_ptr_ua σ v (fun q hq => by revert q; decide)
theorem fw_ptr_21 (σ : fw_M) (j v : Int) : fw_ptr (fw_u σ 21 j v) = fw_ptr σ := fw_ptr_ua σ v (fun q hq => by revert q; decide)
theorem fw_ptr_22 (σ : fw_M) (j v : Int) : fw_ptr (fw_u σ 22 j v) = fw_ptr σ := fw_ptr_ua σ v (fun q hq => by revert q; decide)
theorem fw_ptr_23 (σ : fw_M) (j v : Int) : fw_ptr (fw_u σ 23 j v) = fw_ptr σ := fw_ptr_ua σ v (fun q hq => by revert q; decide)
theorem fw_ptr_24 (σ : fw_M) (j v : Int) : fw_ptr (fw_u σ 24 j v) = fw_ptr σ := fw_ptr_ua σ v (fun q hq => by revert q; decide)
theorem fw_ptr_26 (σ : fw_M) (j v : Int) : fw_ptr (fw_u σ 26 j v) = fw_ptr σ := fw_ptr_ua σ v (fun q hq => by revert q; decide)
theorem fw_ptr_29 (σ : fw_M) (j v : Int) : fw_ptr (fw_u σ 29 j v) = fw_ptr σ := fw_ptr_ua σ v (fun q hq => by revert q; decide)
theorem fw_ptr_30 (σ : fw_M) (j v : Int) : fw_ptr (fw_u σ 30 j v) = fw_ptr σ := fw_ptr_ua σ v (fun q hq => by revert q; decide)
theorem fw_ptr_31 (σ : fw_M) (j v : Int) : fw_ptr (fw_u σ 31 j v) = fw_ptr σ := fw_ptr_ua σ v (fun q hq => by revert q; decide)
theorem fw_ptr_33 (σ : fw_M) (j v : Int) : fw_ptr (fw_u σ 33 j v) = fw_ptr σ := fw_ptr_ua σ v (fun q hq => by revert q; decide)
theorem fw_ptr_34 (σ : fw_M) (j v : Int) : fw_ptr (fw_u σ 34 j v) = fw_ptr σ := fw_ptr_ua σ v (fun q hq => by revert q; decide)
theorem fw_ptr_35 (σ : fw_M) (j v : Int) : fw_ptr (fw_u σ 35 j v) = fw_ptr σ := fw_ptr_ua σ v (fun q hq => by revert q; decide)
theorem fw_ptr_36 (σ : fw_M) (j v : Int) : fw_ptr (fw_u σ 36 j v) = fw_ptr σ := fw_ptr_ua σ v (fun q hq => by revert q; decide)
theorem fw_ptr_37 (σ : fw_M) (j v : Int) : fw_ptr (fw_u σ 37 j v) = fw_ptr σ := fw_ptr_ua σ v (fun q hq => by revert q; decide)
theorem fw_ptr_38 (σ : fw_M) (j v : Int) : fw_ptr (fw_u σ 38 j v) = fw_ptr σ := fw_ptr_ua σ v (fun q hq => by revert q; decide)
theorem fw_ptr_39 (σ : fw_M) (j v : Int) : fw_ptr (fw_u σ 39 j v) = fw_ptr σ := fw_ptr_ua σ v (fun q hq => by revert q; decide)
theorem fw_ptr_40 (σ : fw_M) (j v : Int) : fw_ptr (fw_u σ 40 j v) = fw_ptr σ := fw_ptr_ua σ v (fun q hq => by revert q; decide)
theorem fw_ptr_41 (σ : fw_M) (j v : Int) : fw_ptr (fw_u σ 41 j v) = fw_ptr σ := fw_ptr_ua σ v (fun q hq => by revert q; decide)
theorem fw_ptr_42 (σ : fw_M) (j v : Int) : fw_ptr (fw_u σ 42 j v) = fw_ptr σ := fw_ptr_ua σ v (fun q hq => by revert q; decide)
theorem fw_ptr_43 (σ : fw_M) (j v : Int) : fw_ptr (fw_u σ 43 j v) = fw_ptr σ := fw_ptr_ua σ v (fun q hq => by revert q; decide)
theorem fw_ptr_44 (σ : fw_M) (j v : Int) : fw_ptr (fw_u σ 44 j v) = fw_ptr σ := fw_ptr_ua σ v (fun q hq => by revert q; decide)
theorem fw_ptr_45 (σ : fw_M) (j v : Int) : fw_ptr (fw_u σ 45 j v) = fw_ptr σ := fw_ptr_ua σ v (fun q hq => by revert q; decide)
theorem fw_ptr_46 (σ : fw_M) (j v : Int) : fw_ptr (fw_u σ 46 j v) = fw_ptr σ := fw_ptr_ua σ v (fun q hq => by revert q; decide)
theorem fw_ptr_47 (σ : fw_M) (j v : Int) : fw_ptr (fw_u σ 47 j v) = fw_ptr σ := fw_ptr_ua σ v (fun q hq => by revert q; decide)
theorem fw_ptr_48 (σ : fw_M) (j v : Int) : fw_ptr (fw_u σ 48 j v) = fw_ptr σ := fw_ptr_ua σ v (fun q hq => by revert q; decide)
theorem fw_ptr_49 (σ : fw_M) (j v : Int) : fw_ptr (fw_u σ 49 j v) = fw_ptr σ := fw_ptr_ua σ v (fun q hq => by revert q; decide)
theorem fw_ptr_50 (σ : fw_M) (j v : Int) : fw_ptr (fw_u σ 50 j v) = fw_ptr σ := fw_ptr_ua σ v (fun q hq => by revert q; decide)
theorem fw_ptr_51 (σ : fw_M) (j v : Int) : fw_ptr (fw_u σ 51 j v) = fw_ptr σ := fw_ptr_ua σ v (fun q hq => by revert q; decide)
theorem fw_ptr_52 (σ : fw_M) (j v : Int) : fw_ptr (fw_u σ 52 j v) = fw_ptr σ := fw_ptr_ua σ v (fun q hq => by revert q; decide)
theorem fw_ptr_53 (σ : fw_M) (j v : Int) : fw_ptr (fw_u σ 53 j v) = fw_ptr σ := fw_ptr_ua σ v (fun q hq => by revert q; decide)
theorem fw_ptr_54 (σ : fw_M) (j v : Int) : fw_ptr (fw_u σ 54 j v) = fw_ptr σ := fw_ptr_ua σ v (fun q hq => by revert q; decide)
theorem fw_ptr_55 (σ : fw_M) (j v : Int) : fw_ptr (fw_u σ 55 j v) = fw_ptr σ := fw_ptr_ua σ v (fun q hq => by revert q; decide)
theorem fw_ptr_12 (σ : fw_M) (j v : Int) : fw_ptr (fw_u σ 12 j v) = fw_ptr σ := fw_ptr_ua σ v (fun q hq => by revert q; decide)
theorem fw_ptr_b3 (σ : fw_M) {b v : Int} (hb : b = 8 ∨ b = 18) : fw_ptr (fw_u σ b 3 v) = fw_ptr σ := by rcases hb with rfl | rfl; exact fw_ptr_8_3 σ v; exact fw_ptr_18_3 σ v
theorem fw_ptr_b2_ (σ : fw_M) {b v : Int} (hb : b = 8 ∨ b = 18) : fw_ptr (fw_u σ b 2 v) = fw_ptr σ := by rcases hb with rfl | rfl; exact fw_ptr_8_2 σ v; exact fw_ptr_18_2 σ v
theorem fw_ptr_b1 (σ : fw_M) {b j v : Int} (hb : b = 8 ∨ b = 18) : fw_ptr (fw_u σ (b + 1) j v) = fw_ptr σ := by rcases hb with rfl | rfl; exact fw_ptr_9 σ j v; exact fw_ptr_19 σ j v
theorem fw_ptr_b2 (σ : fw_M) {b j v : Int} (hb : b = 8 ∨ b = 18) : fw_ptr (fw_u σ (b + 2) j v) = fw_ptr σ := by rcases hb with rfl | rfl; exact fw_ptr_10 σ j v; exact fw_ptr_20 σ j v
theorem fw_u_self (σ : fw_M) (k j : Int) : fw_u σ k j (fw_r σ k j) = σ := by
  funext a b
  unfold fw_u fw_r
  split
  · rename_i h; rw [h.1, h.2]
  · rfl
