/-! leavingAhead of the reference -/
/-- one cell's slots out of another's -/
def fg_cp (m : fw_M) (d s lo hi : Int) : fw_M := fun a b => if a = d ∧ lo ≤ b ∧ b < hi then fw_r m s b else m a b
theorem fg_cp_r (m : fw_M) (d s lo hi a b : Int) : fw_r (fg_cp m d s lo hi) a b = if a = d ∧ lo ≤ b ∧ b < hi then fw_r m s b else fw_r m a b := rfl
theorem fg_cp_o (m : fw_M) (d s lo hi : Int) {a b : Int} (h : a ≠ d) : fw_r (fg_cp m d s lo hi) a b = fw_r m a b := by rw [fg_cp_r, if_neg (fun hc => h hc.1)]
theorem fg_cp_0 (m : fw_M) (d s lo hi : Int) (h : hi ≤ lo) : fg_cp m d s lo hi = m := by
  funext a b; unfold fg_cp; rw [if_neg (by omega)]
theorem fg_cp_s (m : fw_M) {d s lo hi : Int} (h : lo < hi) (hd : s ≠ d) : fg_cp (fw_u m d lo (fw_r m s lo)) d s (lo + 1) hi = fg_cp m d s lo hi := by
  funext a b
  show (if a = d ∧ lo + 1 ≤ b ∧ b < hi then fw_r (fw_u m d lo (fw_r m s lo)) s b else fw_r (fw_u m d lo (fw_r m s lo)) a b) = (if a = d ∧ lo ≤ b ∧ b < hi then fw_r m s b else fw_r m a b)
  rw [fw_r_k _ hd, fw_r_u]
  by_cases h1 : a = d ∧ lo + 1 ≤ b ∧ b < hi
  · rw [if_pos h1, if_pos (by omega)]
  · rw [if_neg h1]
    by_cases h2 : a = d ∧ b = lo
    · rw [if_pos h2, if_pos (by omega), h2.2]
    · rw [if_neg h2, if_neg (by omega)]
theorem fg_cp_ptr {m : fw_M} {d s lo hi : Int} (h : fw_ptr m) (hd : ∀ q ∈ fw_psT, q.1 ≠ d) : fw_ptr (fg_cp m d s lo hi) := fg_ptr_of h (fun q hq => fg_cp_o m d s lo hi (hd q hq))
/-- all but what a look ahead moves is as it was -/
def fg_OT (m m' : fw_M) : Prop := (∀ a j, a ≠ 33 → a ≠ 40 → a ≠ 42 → (a ≠ 32 ∨ j ≠ 15) → fw_r m' a j = fw_r m a j) ∧ (∀ j, ¬(0 ≤ j ∧ j < fw_r m 32 1) → fw_r m' 33 j = fw_r m 33 j) ∧ (∀ j, ¬(0 ≤ j ∧ j < fw_r m 32 10) → fw_r m' 40 j = fw_r m 40 j) ∧ (∀ j, ¬(0 ≤ j ∧ j < fw_r m 32 3) → fw_r m' 42 j = fw_r m 42 j)
theorem fg_OT_refl (m : fw_M) : fg_OT m m := ⟨fun _ _ _ _ _ _ => rfl, fun _ _ => rfl, fun _ _ => rfl, fun _ _ => rfl⟩
theorem fg_OT_trans {a b c : fw_M} (h : fg_OT a b) (h2 : fg_OT b c) : fg_OT a c := by
  have e1 := h.1 32 1 (by decide) (by decide) (by decide) (by decide)
  have e3 := h.1 32 3 (by decide) (by decide) (by decide) (by decide)
  have e10 := h.1 32 10 (by decide) (by decide) (by decide) (by decide)
  refine ⟨fun x j p q r s => (h2.1 x j p q r s).trans (h.1 x j p q r s), fun j hj => (h2.2.1 j (by rw [e1]; exact hj)).trans (h.2.1 j hj), fun j hj => (h2.2.2.1 j (by rw [e10]; exact hj)).trans (h.2.2.1 j hj), fun j hj => (h2.2.2.2 j (by rw [e3]; exact hj)).trans (h.2.2.2 j hj)⟩
theorem fg_OT_mvs {m : fw_M} {M : Int} (h : fg_ML M m) : fg_OT m (fg_mvs m) := by
  have ht := h.2.1.2.2.1 (fw_r m 32 1 - 1) (by have := h.1.2.2.1; omega) (by omega)
  have hF := h.2.1.2.1
  refine ⟨fun a j h1 h2 _ _ => fg_mvs_o m h1 h2, fun j hj => fg_mvs_33o hj, fun j hj => ?_, fun j hj => fg_mvs_o m (by decide) (by decide)⟩
  rw [fg_mvs_40, if_neg (by omega)]
theorem fg_OT_lc {m : fw_M} {M i : Int} (h : fg_ML M m) (h0 : 0 ≤ i) (h1 : i < fw_r m 32 3) : fg_OT m (fg_lc m i) := by
  have hc := h.1.2.2.2.2.1 i h0 h1
  have hN := h.1.2.2.1
  refine ⟨fun a j q1 q2 q3 _ => fg_lc_o m i (Or.inl q1) (Or.inl q3), fun j hj => fg_lc_o m i (Or.inr (by omega)) (Or.inl (by decide)), fun j hj => fg_lc_o m i (Or.inl (by decide)) (Or.inl (by decide)), fun j hj => fg_lc_o m i (Or.inl (by decide)) (Or.inr (by omega))⟩
theorem fg_OT_lo {m : fw_M} {M : Int} (h : fg_ML M m) : fg_OT m (fg_lo m) := by
  have hN := h.1.2.2.1
  refine ⟨fun a j q1 q2 q3 _ => fg_lo_o m (Or.inl q1), fun j hj => fg_lo_o m (Or.inr (by omega)), fun j hj => fg_lo_o m (Or.inl (by decide)), fun j hj => fg_lo_o m (Or.inl (by decide))⟩
theorem fg_OT_ll {m : fw_M} {M : Int} (h : fg_ML M m) : fg_OT m (fg_ll m) := by
  have hN := h.1.2.2.1
  refine ⟨fun a j q1 q2 q3 q4 => fg_ll_o m (Or.inl q1) q4, fun j hj => fg_ll_o m (Or.inr (by omega)) (Or.inl (by decide)), fun j hj => fg_ll_o m (Or.inl (by decide)) (Or.inl (by decide)), fun j hj => fg_ll_o m (Or.inl (by decide)) (Or.inl (by decide))⟩
theorem fg_OT_lcn : ∀ (k : Nat) (i M : Int) (m : fw_M), fg_ML M m → 0 ≤ i → i + k = fw_r m 32 3 → fg_OT m (fg_lcn m i k) ∧ fg_ML M (fg_lcn m i k) := by
  intro k
  induction k with
  | zero => intro i M m h h0 h1; exact ⟨fg_OT_refl m, h⟩
  | succ k ih =>
    intro i M m h h0 h1
    have e3 : fw_r (fg_lc m i) 32 3 = fw_r m 32 3 := fg_lc_n m i 32 (by decide) (by decide) 3
    obtain ⟨q1, q2⟩ := ih (i + 1) M (fg_lc m i) (fg_ML_lc h h0 (by omega)) (by omega) (by rw [e3]; omega)
    exact ⟨fg_OT_trans (fg_OT_lc h h0 (by omega)) q1, q2⟩
theorem fg_OT_T2 {m : fw_M} {M : Int} (h : fg_ML M m) : fg_OT m (fg_T2 m) := by
  have h1 := fg_ML_mvs h
  have hn := h.1.2.1
  have e : fw_r (fg_mvs m) 32 3 = fw_r m 32 3 := fg_mvs_o m (by decide) (by decide)
  have hk : ((fg_n m : Nat) : Int) = fw_r m 32 3 := by unfold fg_n; omega
  obtain ⟨q1, q2⟩ := fg_OT_lcn (fg_n m) 0 (M + 1) (fg_mvs m) h1 (by omega) (by omega)
  exact fg_OT_trans (fg_OT_mvs h) (fg_OT_trans q1 (fg_OT_trans (fg_OT_lo q2) (fg_OT_ll (fg_ML_lo q2))))
/-- only the copies and the code are new -/
def fg_SL (m m' : fw_M) : Prop := ∀ a j, a ≠ 49 → a ≠ 50 → a ≠ 51 → (a ≠ 32 ∨ j ≠ 0) → fw_r m' a j = fw_r m a j
theorem fg_ML_32_0 {m : fw_M} {M v : Int} (h : fg_ML M m) : fg_ML M (fw_u m 32 0 v) := by
  have e : ∀ a j, (a ≠ 32 ∨ j ≠ 0) → fw_r (fw_u m 32 0 v) a j = fw_r m a j := fun a j h => by rw [fw_r_u, if_neg (by omega)]
  obtain ⟨h1, h2, h3, h4⟩ := h
  refine ⟨fg_MC_m h1 (by rw [fw_ptr_32_0]; exact h1.1) (fun j _ _ _ _ _ hj => fw_r_j _ hj) (fun a j ha => fw_r_k _ (by omega)), fg_TR_m h2 (fw_r_j _ (by decide)) (fw_r_j _ (by decide)) (fw_r_j _ (by decide)) (fun j => fw_r_k _ (by decide)) (fun j => fw_r_k _ (by decide)), fun i a b => ?_, fun p a b => ?_⟩
  · rw [e 32 3 (by decide)] at b
    rw [e 42 i (Or.inl (by decide))]; exact h3 i a b
  · rw [e 32 10 (by decide)] at b
    rw [e 40 p (Or.inl (by decide))]; exact h4 p a b
theorem fg_Cn_bd : ∀ (k : Nat) (M : Int) (m : fw_M), fg_ML M m → 0 ≤ fg_Cn k m ∧ fg_Cn k m ≤ 7 * k := by
  intro k
  induction k with
  | zero => intro M m h; simp [fg_Cn]
  | succ k ih =>
    intro M m h
    have q := fg_C2_bd h
    have := ih (M + 1) (fg_T2 m) (fg_ML_T2 h)
    rw [fg_Cn]; omega
