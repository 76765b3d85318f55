/-! sums and seals -/
def fg_sf (f : Int → Int) : Int → Nat → Int
  | _, 0 => 0
  | i, k + 1 => f i + fg_sf f (i + 1) k
theorem fg_sf_end (f : Int → Int) : ∀ (k : Nat) (i : Int), fg_sf f i (k + 1) = fg_sf f i k + f (i + k) := by
  intro k
  induction k with
  | zero => intro i; simp [fg_sf]
  | succ k ih =>
    intro i
    rw [fg_sf, ih (i + 1), fg_sf]
    have : i + 1 + (k : Int) = i + ((k + 1 : Nat) : Int) := by omega
    rw [this]; omega
theorem fg_sf_ext {f g : Int → Int} : ∀ (k : Nat) (i : Int), (∀ j, i ≤ j → j < i + k → f j = g j) → fg_sf f i k = fg_sf g i k := by
  intro k
  induction k with
  | zero => intro i h; rfl
  | succ k ih =>
    intro i h
    rw [fg_sf, fg_sf, h i (by omega) (by omega), ih (i + 1) (fun j h1 h2 => h j (by omega) (by omega))]
theorem fg_sf_bd {f : Int → Int} {lo hi : Int} : ∀ (k : Nat) (i : Int), (∀ j, i ≤ j → j < i + k → lo ≤ f j ∧ f j ≤ hi) → lo * k ≤ fg_sf f i k ∧ fg_sf f i k ≤ hi * k := by
  intro k
  induction k with
  | zero => intro i h; simp [fg_sf]
  | succ k ih =>
    intro i h
    have h1 := ih (i + 1) (fun j h1 h2 => h j (by omega) (by omega))
    have h2 := h i (by omega) (by omega)
    rw [fg_sf]
    have e : ((k + 1 : Nat) : Int) = (k : Int) + 1 := by omega
    rw [e, Int.mul_add, Int.mul_add]
    omega
theorem fg_sf_0 {f : Int → Int} (k : Nat) (i : Int) (h : ∀ j, i ≤ j → j < i + k → f j = 0) : fg_sf f i k = 0 := by
  have := fg_sf_bd (f := f) (lo := 0) (hi := 0) k i (fun j h1 h2 => by rw [h j h1 h2]; omega)
  omega
theorem fg_sf_upd {f g : Int → Int} {x : Int} : ∀ (k : Nat) (i : Int), (∀ j, i ≤ j → j < i + k → j ≠ x → f j = g j) → i ≤ x → x < i + k → fg_sf f i k = fg_sf g i k + (f x - g x) := by
  intro k
  induction k with
  | zero => intro i h h1 h2; omega
  | succ k ih =>
    intro i h h1 h2
    rw [fg_sf, fg_sf]
    by_cases hx : i = x
    · subst hx
      rw [fg_sf_ext (g := g) k (i + 1) (fun j a b => h j (by omega) (by omega) (by omega))]
      omega
    · rw [h i (by omega) (by omega) hx, ih (i + 1) (fun j a b => h j (by omega) (by omega)) (by omega) (by omega)]
      omega
theorem fg_sf_one {f : Int → Int} {x : Int} (k : Nat) (i : Int) (h : ∀ j, i ≤ j → j < i + k → j ≠ x → f j = 0) (h1 : i ≤ x) (h2 : x < i + k) : fg_sf f i k = f x := by
  rw [fg_sf_upd (g := fun _ => 0) (x := x) k i (fun j a b c => h j a b c) h1 h2, fg_sf_0 k i (fun j _ _ => rfl)]
  omega
theorem fg_sf_shift (f : Int → Int) (d : Int) : ∀ (k : Nat) (i : Int), fg_sf (fun j => f (j + d)) i k = fg_sf f (i + d) k := by
  intro k
  induction k with
  | zero => intro i; rfl
  | succ k ih =>
    intro i
    rw [fg_sf, fg_sf, ih (i + 1)]
    have : i + 1 + d = i + d + 1 := by omega
    rw [this]
theorem fg_sf_add (f : Int → Int) : ∀ (k l : Nat) (i : Int), fg_sf f i (k + l) = fg_sf f i k + fg_sf f (i + k) l := by
  intro k
  induction k with
  | zero => intro l i; simp [fg_sf]
  | succ k ih =>
    intro l i
    have e : k + 1 + l = (k + l) + 1 := by omega
    rw [e, fg_sf, ih l (i + 1), fg_sf]
    have : i + 1 + (k : Int) = i + ((k + 1 : Nat) : Int) := by omega
    rw [this]; omega
theorem fg_sf_plus (f g : Int → Int) : ∀ (k : Nat) (i : Int), fg_sf (fun j => f j + g j) i k = fg_sf f i k + fg_sf g i k := by
  intro k
  induction k with
  | zero => intro i; simp [fg_sf]
  | succ k ih => intro i; rw [fg_sf, fg_sf, fg_sf, ih]; omega
/-- the two sums of a seal -/
def fg_se (f : Int → Int) : Int → Nat → Int × Int → Int × Int
  | _, 0, s => s
  | i, k + 1, s => fg_se f (i + 1) k ((s.1 + f i + 1) % 9973, (s.2 + (s.1 + f i + 1) % 9973) % 9973)
def fg_st (s : Int × Int) (x : Int) : Int × Int := ((s.1 + x + 1) % 9973, (s.2 + (s.1 + x + 1) % 9973) % 9973)
theorem fg_se_end (f : Int → Int) : ∀ (k : Nat) (i : Int) (s : Int × Int), fg_se f i (k + 1) s = fg_st (fg_se f i k s) (f (i + k)) := by
  intro k
  induction k with
  | zero => intro i s; simp [fg_se, fg_st]
  | succ k ih =>
    intro i s
    rw [fg_se, ih, fg_se]
    have : i + 1 + (k : Int) = i + ((k + 1 : Nat) : Int) := by omega
    rw [this]
theorem fg_se_ext {f g : Int → Int} : ∀ (k : Nat) (i : Int) (s : Int × Int), (∀ j, i ≤ j → j < i + k → f j = g j) → fg_se f i k s = fg_se g i k s := by
  intro k
  induction k with
  | zero => intro i s h; rfl
  | succ k ih =>
    intro i s h
    rw [fg_se, fg_se, h i (by omega) (by omega), ih (i + 1) _ (fun j h1 h2 => h j (by omega) (by omega))]
theorem fg_se_shift (f : Int → Int) (d : Int) : ∀ (k : Nat) (i : Int) (s : Int × Int), fg_se (fun j => f (j + d)) i k s = fg_se f (i + d) k s := by
  intro k
  induction k with
  | zero => intro i s; rfl
  | succ k ih =>
    intro i s
    rw [fg_se, fg_se, ih (i + 1)]
    have : i + 1 + d = i + d + 1 := by omega
    rw [this]
theorem fg_se_in (f : Int → Int) : ∀ (k : Nat) (i : Int) (s : Int × Int), (0 ≤ s.1 ∧ s.1 < 9973 ∧ 0 ≤ s.2 ∧ s.2 < 9973) → 0 ≤ (fg_se f i k s).1 ∧ (fg_se f i k s).1 < 9973 ∧ 0 ≤ (fg_se f i k s).2 ∧ (fg_se f i k s).2 < 9973 := by
  intro k
  induction k with
  | zero => intro i s h; exact h
  | succ k ih =>
    intro i s h
    rw [fg_se]
    apply ih
    dsimp only
    omega
/-! parcels -/
def fg_pok (σ : fw_M) : Prop := 0 ≤ fw_r σ 2 6 ∧ fw_r σ 2 6 ≤ fw_r σ 2 5 ∧ fw_r σ 2 5 ≤ 300
theorem fs_pHas_t {σ : fw_M} {p : Int} (h : fg_pok σ) (h0 : 0 ≤ p) (h1 : p < fw_r σ 2 5) : fw_E 33 0 [(2, 2), (0, p)] [] σ = some ((0, 1), σ) := by
  unfold fg_pok at h
  simp (disch := first | omega | assumption | (simp (disch := omega) only [fw_w_id, fw_wl_id, fw_r_k, fw_r_j, fw_r_s]; omega) | (simp only [fw_ptr_1_8, fw_ptr_2_5, fw_ptr_2_6, fw_ptr_2_7, fw_ptr_2_8, fw_ptr_2_9, fw_ptr_8_2, fw_ptr_8_3, fw_ptr_11_2, fw_ptr_11_3, fw_ptr_11_4, fw_ptr_11_5, fw_ptr_11_6, fw_ptr_17_8, fw_ptr_18_2, fw_ptr_18_3, fw_ptr_25_1, fw_ptr_27_2, fw_ptr_28_1, fw_ptr_32_0, fw_ptr_32_1, fw_ptr_32_3, fw_ptr_32_7, fw_ptr_32_8, fw_ptr_32_9, fw_ptr_32_10, fw_ptr_32_15, fw_ptr_32_16, fw_ptr_32_17, fw_ptr_32_18, fw_ptr_32_19, fw_ptr_32_25, fw_ptr_32_29, fw_ptr_3, fw_ptr_4, fw_ptr_5, fw_ptr_6, fw_ptr_7, fw_ptr_9, fw_ptr_10, fw_ptr_13, fw_ptr_15, fw_ptr_16, fw_ptr_19, fw_ptr_20, fw_ptr_21, fw_ptr_22, fw_ptr_23, fw_ptr_24, fw_ptr_26, fw_ptr_29, fw_ptr_30, fw_ptr_31, fw_ptr_33, fw_ptr_34, fw_ptr_35, fw_ptr_36, fw_ptr_37, fw_ptr_38, fw_ptr_39, fw_ptr_40, fw_ptr_41, fw_ptr_42, fw_ptr_43, fw_ptr_44, fw_ptr_45, fw_ptr_46, fw_ptr_47, fw_ptr_48, fw_ptr_49, fw_ptr_50, fw_ptr_51, fw_ptr_52, fw_ptr_53, fw_ptr_54, fw_ptr_55, fw_ptr_12, fw_ptr_x, fw_ptr_hi, fw_ptr_b3, fw_ptr_b1, fw_ptr_b2, fw_ptr_b2_]; assumption)) only [fw_b_33_0, fw_b_33_4, fw_b_33_23, fw_b_33_12, fw_b_33_19, ↓if_pos, ↓if_neg, if_neg, if_pos, fw_bs, fw_cn_0, fw_cn_1, fw_cn_2, fw_cn_3, fw_cn_4, fw_cn_5, Nat.reduceAdd, fw_w_id, fw_wl_id, fw_r_k, fw_r_j, fw_r_s, if_true, if_false]
theorem fs_pHas_f {σ : fw_M} {p : Int} (h : ¬(0 ≤ p ∧ p < fw_r σ 2 5)) : fw_E 33 0 [(2, 2), (0, p)] [] σ = some ((0, 0), σ) := by
  by_cases h0 : p < 0
  · simp (disch := first | omega | assumption | (simp (disch := omega) only [fw_w_id, fw_wl_id, fw_r_k, fw_r_j, fw_r_s]; omega) | (simp only [fw_ptr_1_8, fw_ptr_2_5, fw_ptr_2_6, fw_ptr_2_7, fw_ptr_2_8, fw_ptr_2_9, fw_ptr_8_2, fw_ptr_8_3, fw_ptr_11_2, fw_ptr_11_3, fw_ptr_11_4, fw_ptr_11_5, fw_ptr_11_6, fw_ptr_17_8, fw_ptr_18_2, fw_ptr_18_3, fw_ptr_25_1, fw_ptr_27_2, fw_ptr_28_1, fw_ptr_32_0, fw_ptr_32_1, fw_ptr_32_3, fw_ptr_32_7, fw_ptr_32_8, fw_ptr_32_9, fw_ptr_32_10, fw_ptr_32_15, fw_ptr_32_16, fw_ptr_32_17, fw_ptr_32_18, fw_ptr_32_19, fw_ptr_32_25, fw_ptr_32_29, fw_ptr_3, fw_ptr_4, fw_ptr_5, fw_ptr_6, fw_ptr_7, fw_ptr_9, fw_ptr_10, fw_ptr_13, fw_ptr_15, fw_ptr_16, fw_ptr_19, fw_ptr_20, fw_ptr_21, fw_ptr_22, fw_ptr_23, fw_ptr_24, fw_ptr_26, fw_ptr_29, fw_ptr_30, fw_ptr_31, fw_ptr_33, fw_ptr_34, fw_ptr_35, fw_ptr_36, fw_ptr_37, fw_ptr_38, fw_ptr_39, fw_ptr_40, fw_ptr_41, fw_ptr_42, fw_ptr_43, fw_ptr_44, fw_ptr_45, fw_ptr_46, fw_ptr_47, fw_ptr_48, fw_ptr_49, fw_ptr_50, fw_ptr_51, fw_ptr_52, fw_ptr_53, fw_ptr_54, fw_ptr_55, fw_ptr_12, fw_ptr_x, fw_ptr_hi, fw_ptr_b3, fw_ptr_b1, fw_ptr_b2, fw_ptr_b2_]; assumption)) only [fw_b_33_0, fw_b_33_4, fw_b_33_23, fw_b_33_12, fw_b_33_19, ↓if_pos, ↓if_neg, if_neg, if_pos, fw_bs, fw_cn_0, fw_cn_1, fw_cn_2, fw_cn_3, fw_cn_4, fw_cn_5, Nat.reduceAdd, fw_w_id, fw_wl_id, fw_r_k, fw_r_j, fw_r_s, if_true, if_false]
  · simp (disch := first | omega | assumption | (simp (disch := omega) only [fw_w_id, fw_wl_id, fw_r_k, fw_r_j, fw_r_s]; omega) | (simp only [fw_ptr_1_8, fw_ptr_2_5, fw_ptr_2_6, fw_ptr_2_7, fw_ptr_2_8, fw_ptr_2_9, fw_ptr_8_2, fw_ptr_8_3, fw_ptr_11_2, fw_ptr_11_3, fw_ptr_11_4, fw_ptr_11_5, fw_ptr_11_6, fw_ptr_17_8, fw_ptr_18_2, fw_ptr_18_3, fw_ptr_25_1, fw_ptr_27_2, fw_ptr_28_1, fw_ptr_32_0, fw_ptr_32_1, fw_ptr_32_3, fw_ptr_32_7, fw_ptr_32_8, fw_ptr_32_9, fw_ptr_32_10, fw_ptr_32_15, fw_ptr_32_16, fw_ptr_32_17, fw_ptr_32_18, fw_ptr_32_19, fw_ptr_32_25, fw_ptr_32_29, fw_ptr_3, fw_ptr_4, fw_ptr_5, fw_ptr_6, fw_ptr_7, fw_ptr_9, fw_ptr_10, fw_ptr_13, fw_ptr_15, fw_ptr_16, fw_ptr_19, fw_ptr_20, fw_ptr_21, fw_ptr_22, fw_ptr_23, fw_ptr_24, fw_ptr_26, fw_ptr_29, fw_ptr_30, fw_ptr_31, fw_ptr_33, fw_ptr_34, fw_ptr_35, fw_ptr_36, fw_ptr_37, fw_ptr_38, fw_ptr_39, fw_ptr_40, fw_ptr_41, fw_ptr_42, fw_ptr_43, fw_ptr_44, fw_ptr_45, fw_ptr_46, fw_ptr_47, fw_ptr_48, fw_ptr_49, fw_ptr_50, fw_ptr_51, fw_ptr_52, fw_ptr_53, fw_ptr_54, fw_ptr_55, fw_ptr_12, fw_ptr_x, fw_ptr_hi, fw_ptr_b3, fw_ptr_b1, fw_ptr_b2, fw_ptr_b2_]; assumption)) only [fw_b_33_0, fw_b_33_4, fw_b_33_23, fw_b_33_12, fw_b_33_19, ↓if_pos, ↓if_neg, if_neg, if_pos, fw_bs, fw_cn_0, fw_cn_1, fw_cn_2, fw_cn_3, fw_cn_4, fw_cn_5, Nat.reduceAdd, fw_w_id, fw_wl_id, fw_r_k, fw_r_j, fw_r_s, if_true, if_false]
theorem fs_add {σ : fw_M} {r w : Int} {a3 : fw_V} (hp : fw_ptr σ) (h : fg_pok σ) (h1 : fw_r σ 2 5 < 300) : fw_E 34 0 [(2, 2), (0, r), (0, w), a3] [] σ = some ((0, fw_r σ 2 5), fw_u (fw_u (fw_u (fw_u σ 3 (fw_r σ 2 5) r) 4 (fw_r σ 2 5) w) 5 (fw_r σ 2 5) 119) 2 5 (fw_r σ 2 5 + 1)) := by
  unfold fg_pok at h
  simp (disch := first | omega | assumption | (simp (disch := omega) only [fw_w_id, fw_wl_id, fw_r_k, fw_r_j, fw_r_s]; omega) | (simp only [fw_ptr_1_8, fw_ptr_2_5, fw_ptr_2_6, fw_ptr_2_7, fw_ptr_2_8, fw_ptr_2_9, fw_ptr_8_2, fw_ptr_8_3, fw_ptr_11_2, fw_ptr_11_3, fw_ptr_11_4, fw_ptr_11_5, fw_ptr_11_6, fw_ptr_17_8, fw_ptr_18_2, fw_ptr_18_3, fw_ptr_25_1, fw_ptr_27_2, fw_ptr_28_1, fw_ptr_32_0, fw_ptr_32_1, fw_ptr_32_3, fw_ptr_32_7, fw_ptr_32_8, fw_ptr_32_9, fw_ptr_32_10, fw_ptr_32_15, fw_ptr_32_16, fw_ptr_32_17, fw_ptr_32_18, fw_ptr_32_19, fw_ptr_32_25, fw_ptr_32_29, fw_ptr_3, fw_ptr_4, fw_ptr_5, fw_ptr_6, fw_ptr_7, fw_ptr_9, fw_ptr_10, fw_ptr_13, fw_ptr_15, fw_ptr_16, fw_ptr_19, fw_ptr_20, fw_ptr_21, fw_ptr_22, fw_ptr_23, fw_ptr_24, fw_ptr_26, fw_ptr_29, fw_ptr_30, fw_ptr_31, fw_ptr_33, fw_ptr_34, fw_ptr_35, fw_ptr_36, fw_ptr_37, fw_ptr_38, fw_ptr_39, fw_ptr_40, fw_ptr_41, fw_ptr_42, fw_ptr_43, fw_ptr_44, fw_ptr_45, fw_ptr_46, fw_ptr_47, fw_ptr_48, fw_ptr_49, fw_ptr_50, fw_ptr_51, fw_ptr_52, fw_ptr_53, fw_ptr_54, fw_ptr_55, fw_ptr_12, fw_ptr_x, fw_ptr_hi, fw_ptr_b3, fw_ptr_b1, fw_ptr_b2, fw_ptr_b2_]; assumption)) only [fw_b_34_0, fw_b_34_9, fw_b_34_16, fw_b_34_18, fw_b_34_25, fw_b_34_32, fw_b_34_40, fw_b_34_50, ↓if_pos, ↓if_neg, if_neg, if_pos, fw_bs, fw_cn_0, fw_cn_1, fw_cn_2, fw_cn_3, fw_cn_4, fw_cn_5, Nat.reduceAdd, fw_w_id, fw_wl_id, fw_r_k, fw_r_j, fw_r_s, if_true, if_false]
theorem fs_loadFirst {σ : fw_M} {a1 : fw_V} (hp : fw_ptr σ) (h : fg_pok σ) (h1 : fw_r σ 2 6 < fw_r σ 2 5) : fw_E 35 0 [(2, 2), a1] [] σ = some ((0, fw_r σ 2 6), fw_u (fw_u σ 5 (fw_r σ 2 6) 108) 2 6 (fw_r σ 2 6 + 1)) := by
  have h := id h; have hh := h
  unfold fg_pok at hh
  simp (disch := first | omega | assumption | (simp (disch := omega) only [fw_w_id, fw_wl_id, fw_r_k, fw_r_j, fw_r_s]; omega) | (simp only [fw_ptr_1_8, fw_ptr_2_5, fw_ptr_2_6, fw_ptr_2_7, fw_ptr_2_8, fw_ptr_2_9, fw_ptr_8_2, fw_ptr_8_3, fw_ptr_11_2, fw_ptr_11_3, fw_ptr_11_4, fw_ptr_11_5, fw_ptr_11_6, fw_ptr_17_8, fw_ptr_18_2, fw_ptr_18_3, fw_ptr_25_1, fw_ptr_27_2, fw_ptr_28_1, fw_ptr_32_0, fw_ptr_32_1, fw_ptr_32_3, fw_ptr_32_7, fw_ptr_32_8, fw_ptr_32_9, fw_ptr_32_10, fw_ptr_32_15, fw_ptr_32_16, fw_ptr_32_17, fw_ptr_32_18, fw_ptr_32_19, fw_ptr_32_25, fw_ptr_32_29, fw_ptr_3, fw_ptr_4, fw_ptr_5, fw_ptr_6, fw_ptr_7, fw_ptr_9, fw_ptr_10, fw_ptr_13, fw_ptr_15, fw_ptr_16, fw_ptr_19, fw_ptr_20, fw_ptr_21, fw_ptr_22, fw_ptr_23, fw_ptr_24, fw_ptr_26, fw_ptr_29, fw_ptr_30, fw_ptr_31, fw_ptr_33, fw_ptr_34, fw_ptr_35, fw_ptr_36, fw_ptr_37, fw_ptr_38, fw_ptr_39, fw_ptr_40, fw_ptr_41, fw_ptr_42, fw_ptr_43, fw_ptr_44, fw_ptr_45, fw_ptr_46, fw_ptr_47, fw_ptr_48, fw_ptr_49, fw_ptr_50, fw_ptr_51, fw_ptr_52, fw_ptr_53, fw_ptr_54, fw_ptr_55, fw_ptr_12, fw_ptr_x, fw_ptr_hi, fw_ptr_b3, fw_ptr_b1, fw_ptr_b2, fw_ptr_b2_]; assumption)) only [fw_b_35_0, fw_b_35_10, fw_b_35_15, fw_b_35_23, fw_b_35_33, fw_b_35_13, fs_pHas_t, ↓if_pos, ↓if_neg, if_neg, if_pos, fw_bs, fw_cn_0, fw_cn_1, fw_cn_2, fw_cn_3, fw_cn_4, fw_cn_5, Nat.reduceAdd, fw_w_id, fw_wl_id, fw_r_k, fw_r_j, fw_r_s, if_true, if_false]
theorem fs_leave {σ : fw_M} {p s rr : Int} (hp : fw_ptr σ) (h : fg_pok σ) (h0 : 0 ≤ p) (h1 : p < fw_r σ 2 5) (hs : 0 ≤ s) (hs2 : s < 65536) (hl : 0 ≤ fw_r σ 2 7 ∧ fw_r σ 2 7 ≤ 1000) (hl2 : 0 ≤ fw_r σ 2 8 ∧ fw_r σ 2 8 ≤ 1000000000) (hr : 0 ≤ rr ∧ rr ≤ 1000000) : fw_E 36 0 [(2, 2), (0, p), (0, s), (0, rr)] [] σ = some ((5, 0), fw_u (fw_u (fw_u (fw_u σ 5 p s) 6 p rr) 2 7 (fw_r σ 2 7 + 1)) 2 8 (fw_r σ 2 8 + rr)) := by
  have hh := h
  unfold fg_pok at hh
  simp (disch := first | omega | assumption | (simp (disch := omega) only [fw_w_id, fw_wl_id, fw_r_k, fw_r_j, fw_r_s]; omega) | (simp only [fw_ptr_1_8, fw_ptr_2_5, fw_ptr_2_6, fw_ptr_2_7, fw_ptr_2_8, fw_ptr_2_9, fw_ptr_8_2, fw_ptr_8_3, fw_ptr_11_2, fw_ptr_11_3, fw_ptr_11_4, fw_ptr_11_5, fw_ptr_11_6, fw_ptr_17_8, fw_ptr_18_2, fw_ptr_18_3, fw_ptr_25_1, fw_ptr_27_2, fw_ptr_28_1, fw_ptr_32_0, fw_ptr_32_1, fw_ptr_32_3, fw_ptr_32_7, fw_ptr_32_8, fw_ptr_32_9, fw_ptr_32_10, fw_ptr_32_15, fw_ptr_32_16, fw_ptr_32_17, fw_ptr_32_18, fw_ptr_32_19, fw_ptr_32_25, fw_ptr_32_29, fw_ptr_3, fw_ptr_4, fw_ptr_5, fw_ptr_6, fw_ptr_7, fw_ptr_9, fw_ptr_10, fw_ptr_13, fw_ptr_15, fw_ptr_16, fw_ptr_19, fw_ptr_20, fw_ptr_21, fw_ptr_22, fw_ptr_23, fw_ptr_24, fw_ptr_26, fw_ptr_29, fw_ptr_30, fw_ptr_31, fw_ptr_33, fw_ptr_34, fw_ptr_35, fw_ptr_36, fw_ptr_37, fw_ptr_38, fw_ptr_39, fw_ptr_40, fw_ptr_41, fw_ptr_42, fw_ptr_43, fw_ptr_44, fw_ptr_45, fw_ptr_46, fw_ptr_47, fw_ptr_48, fw_ptr_49, fw_ptr_50, fw_ptr_51, fw_ptr_52, fw_ptr_53, fw_ptr_54, fw_ptr_55, fw_ptr_12, fw_ptr_x, fw_ptr_hi, fw_ptr_b3, fw_ptr_b1, fw_ptr_b2, fw_ptr_b2_]; assumption)) only [fw_b_36_0, fw_b_36_5, fw_b_36_8, fw_b_36_15, fw_b_36_22, fw_b_36_32, fw_b_36_43, fs_pHas_t, ↓if_pos, ↓if_neg, if_neg, if_pos, fw_bs, fw_cn_0, fw_cn_1, fw_cn_2, fw_cn_3, fw_cn_4, fw_cn_5, Nat.reduceAdd, fw_w_id, fw_wl_id, fw_r_k, fw_r_j, fw_r_s, if_true, if_false]
theorem fs_enterTruck {σ : fw_M} {p t : Int} (hp : fw_ptr σ) (h : fg_pok σ) (h0 : 0 ≤ p) (h1 : p < fw_r σ 2 5) (hl : 0 ≤ fw_r σ 2 9 ∧ fw_r σ 2 9 ≤ 1000000) (hr : 1 ≤ fw_r σ 4 p ∧ fw_r σ 4 p ≤ 9) : fw_E 37 0 [(2, 2), (0, p), (0, t)] [] σ = some ((5, 0), fw_u (fw_u (fw_u σ 5 p 116) 7 p t) 2 9 (fw_r σ 2 9 + fw_r σ 4 p)) := by
  have hh := h
  unfold fg_pok at hh
  simp (disch := first | omega | assumption | (simp (disch := omega) only [fw_w_id, fw_wl_id, fw_r_k, fw_r_j, fw_r_s]; omega) | (simp only [fw_ptr_1_8, fw_ptr_2_5, fw_ptr_2_6, fw_ptr_2_7, fw_ptr_2_8, fw_ptr_2_9, fw_ptr_8_2, fw_ptr_8_3, fw_ptr_11_2, fw_ptr_11_3, fw_ptr_11_4, fw_ptr_11_5, fw_ptr_11_6, fw_ptr_17_8, fw_ptr_18_2, fw_ptr_18_3, fw_ptr_25_1, fw_ptr_27_2, fw_ptr_28_1, fw_ptr_32_0, fw_ptr_32_1, fw_ptr_32_3, fw_ptr_32_7, fw_ptr_32_8, fw_ptr_32_9, fw_ptr_32_10, fw_ptr_32_15, fw_ptr_32_16, fw_ptr_32_17, fw_ptr_32_18, fw_ptr_32_19, fw_ptr_32_25, fw_ptr_32_29, fw_ptr_3, fw_ptr_4, fw_ptr_5, fw_ptr_6, fw_ptr_7, fw_ptr_9, fw_ptr_10, fw_ptr_13, fw_ptr_15, fw_ptr_16, fw_ptr_19, fw_ptr_20, fw_ptr_21, fw_ptr_22, fw_ptr_23, fw_ptr_24, fw_ptr_26, fw_ptr_29, fw_ptr_30, fw_ptr_31, fw_ptr_33, fw_ptr_34, fw_ptr_35, fw_ptr_36, fw_ptr_37, fw_ptr_38, fw_ptr_39, fw_ptr_40, fw_ptr_41, fw_ptr_42, fw_ptr_43, fw_ptr_44, fw_ptr_45, fw_ptr_46, fw_ptr_47, fw_ptr_48, fw_ptr_49, fw_ptr_50, fw_ptr_51, fw_ptr_52, fw_ptr_53, fw_ptr_54, fw_ptr_55, fw_ptr_12, fw_ptr_x, fw_ptr_hi, fw_ptr_b3, fw_ptr_b1, fw_ptr_b2, fw_ptr_b2_]; assumption)) only [fw_b_37_0, fw_b_37_5, fw_b_37_8, fw_b_37_16, fw_b_37_23, fw_b_37_39, fs_pHas_t, ↓if_pos, ↓if_neg, if_neg, if_pos, fw_bs, fw_cn_0, fw_cn_1, fw_cn_2, fw_cn_3, fw_cn_4, fw_cn_5, Nat.reduceAdd, fw_w_id, fw_wl_id, fw_r_k, fw_r_j, fw_r_s, if_true, if_false]
theorem fs_routeAt {σ : fw_M} {p : Int} (hp : fw_ptr σ) (h : fg_pok σ) (h0 : 0 ≤ p) (h1 : p < fw_r σ 2 5) : fw_E 38 0 [(2, 2), (0, p)] [] σ = some ((0, fw_r σ 3 p), σ) := by
  have hh := h
  unfold fg_pok at hh
  simp (disch := first | omega | assumption | (simp (disch := omega) only [fw_w_id, fw_wl_id, fw_r_k, fw_r_j, fw_r_s]; omega) | (simp only [fw_ptr_1_8, fw_ptr_2_5, fw_ptr_2_6, fw_ptr_2_7, fw_ptr_2_8, fw_ptr_2_9, fw_ptr_8_2, fw_ptr_8_3, fw_ptr_11_2, fw_ptr_11_3, fw_ptr_11_4, fw_ptr_11_5, fw_ptr_11_6, fw_ptr_17_8, fw_ptr_18_2, fw_ptr_18_3, fw_ptr_25_1, fw_ptr_27_2, fw_ptr_28_1, fw_ptr_32_0, fw_ptr_32_1, fw_ptr_32_3, fw_ptr_32_7, fw_ptr_32_8, fw_ptr_32_9, fw_ptr_32_10, fw_ptr_32_15, fw_ptr_32_16, fw_ptr_32_17, fw_ptr_32_18, fw_ptr_32_19, fw_ptr_32_25, fw_ptr_32_29, fw_ptr_3, fw_ptr_4, fw_ptr_5, fw_ptr_6, fw_ptr_7, fw_ptr_9, fw_ptr_10, fw_ptr_13, fw_ptr_15, fw_ptr_16, fw_ptr_19, fw_ptr_20, fw_ptr_21, fw_ptr_22, fw_ptr_23, fw_ptr_24, fw_ptr_26, fw_ptr_29, fw_ptr_30, fw_ptr_31, fw_ptr_33, fw_ptr_34, fw_ptr_35, fw_ptr_36, fw_ptr_37, fw_ptr_38, fw_ptr_39, fw_ptr_40, fw_ptr_41, fw_ptr_42, fw_ptr_43, fw_ptr_44, fw_ptr_45, fw_ptr_46, fw_ptr_47, fw_ptr_48, fw_ptr_49, fw_ptr_50, fw_ptr_51, fw_ptr_52, fw_ptr_53, fw_ptr_54, fw_ptr_55, fw_ptr_12, fw_ptr_x, fw_ptr_hi, fw_ptr_b3, fw_ptr_b1, fw_ptr_b2, fw_ptr_b2_]; assumption)) only [fw_b_38_0, fw_b_38_5, fw_b_38_8, fw_b_38_17, fs_pHas_t, ↓if_pos, ↓if_neg, if_neg, if_pos, fw_bs, fw_cn_0, fw_cn_1, fw_cn_2, fw_cn_3, fw_cn_4, fw_cn_5, Nat.reduceAdd, fw_w_id, fw_wl_id, fw_r_k, fw_r_j, fw_r_s, if_true, if_false]
theorem fs_routeAt_f {σ : fw_M} {p : Int} (h : ¬(0 ≤ p ∧ p < fw_r σ 2 5)) : fw_E 38 0 [(2, 2), (0, p)] [] σ = some ((0, -1), σ) := by
  simp (disch := first | omega | assumption | (simp (disch := omega) only [fw_w_id, fw_wl_id, fw_r_k, fw_r_j, fw_r_s]; omega) | (simp only [fw_ptr_1_8, fw_ptr_2_5, fw_ptr_2_6, fw_ptr_2_7, fw_ptr_2_8, fw_ptr_2_9, fw_ptr_8_2, fw_ptr_8_3, fw_ptr_11_2, fw_ptr_11_3, fw_ptr_11_4, fw_ptr_11_5, fw_ptr_11_6, fw_ptr_17_8, fw_ptr_18_2, fw_ptr_18_3, fw_ptr_25_1, fw_ptr_27_2, fw_ptr_28_1, fw_ptr_32_0, fw_ptr_32_1, fw_ptr_32_3, fw_ptr_32_7, fw_ptr_32_8, fw_ptr_32_9, fw_ptr_32_10, fw_ptr_32_15, fw_ptr_32_16, fw_ptr_32_17, fw_ptr_32_18, fw_ptr_32_19, fw_ptr_32_25, fw_ptr_32_29, fw_ptr_3, fw_ptr_4, fw_ptr_5, fw_ptr_6, fw_ptr_7, fw_ptr_9, fw_ptr_10, fw_ptr_13, fw_ptr_15, fw_ptr_16, fw_ptr_19, fw_ptr_20, fw_ptr_21, fw_ptr_22, fw_ptr_23, fw_ptr_24, fw_ptr_26, fw_ptr_29, fw_ptr_30, fw_ptr_31, fw_ptr_33, fw_ptr_34, fw_ptr_35, fw_ptr_36, fw_ptr_37, fw_ptr_38, fw_ptr_39, fw_ptr_40, fw_ptr_41, fw_ptr_42, fw_ptr_43, fw_ptr_44, fw_ptr_45, fw_ptr_46, fw_ptr_47, fw_ptr_48, fw_ptr_49, fw_ptr_50, fw_ptr_51, fw_ptr_52, fw_ptr_53, fw_ptr_54, fw_ptr_55, fw_ptr_12, fw_ptr_x, fw_ptr_hi, fw_ptr_b3, fw_ptr_b1, fw_ptr_b2, fw_ptr_b2_]; assumption)) only [fw_b_38_0, fw_b_38_5, fw_b_38_8, fw_b_38_17, fs_pHas_f, ↓if_pos, ↓if_neg, if_neg, if_pos, fw_bs, fw_cn_0, fw_cn_1, fw_cn_2, fw_cn_3, fw_cn_4, fw_cn_5, Nat.reduceAdd, fw_w_id, fw_wl_id, fw_r_k, fw_r_j, fw_r_s, if_true, if_false]
theorem fs_stateAt {σ : fw_M} {p : Int} (hp : fw_ptr σ) (h : fg_pok σ) (h0 : 0 ≤ p) (h1 : p < fw_r σ 2 5) (h2 : 0 ≤ fw_r σ 5 p ∧ fw_r σ 5 p < 65536) : fw_E 39 0 [(2, 2), (0, p)] [] σ = some ((0, fw_r σ 5 p), σ) := by
  have hh := h
  unfold fg_pok at hh
  simp (disch := first | omega | assumption | (simp (disch := omega) only [fw_w_id, fw_wl_id, fw_r_k, fw_r_j, fw_r_s]; omega) | (simp only [fw_ptr_1_8, fw_ptr_2_5, fw_ptr_2_6, fw_ptr_2_7, fw_ptr_2_8, fw_ptr_2_9, fw_ptr_8_2, fw_ptr_8_3, fw_ptr_11_2, fw_ptr_11_3, fw_ptr_11_4, fw_ptr_11_5, fw_ptr_11_6, fw_ptr_17_8, fw_ptr_18_2, fw_ptr_18_3, fw_ptr_25_1, fw_ptr_27_2, fw_ptr_28_1, fw_ptr_32_0, fw_ptr_32_1, fw_ptr_32_3, fw_ptr_32_7, fw_ptr_32_8, fw_ptr_32_9, fw_ptr_32_10, fw_ptr_32_15, fw_ptr_32_16, fw_ptr_32_17, fw_ptr_32_18, fw_ptr_32_19, fw_ptr_32_25, fw_ptr_32_29, fw_ptr_3, fw_ptr_4, fw_ptr_5, fw_ptr_6, fw_ptr_7, fw_ptr_9, fw_ptr_10, fw_ptr_13, fw_ptr_15, fw_ptr_16, fw_ptr_19, fw_ptr_20, fw_ptr_21, fw_ptr_22, fw_ptr_23, fw_ptr_24, fw_ptr_26, fw_ptr_29, fw_ptr_30, fw_ptr_31, fw_ptr_33, fw_ptr_34, fw_ptr_35, fw_ptr_36, fw_ptr_37, fw_ptr_38, fw_ptr_39, fw_ptr_40, fw_ptr_41, fw_ptr_42, fw_ptr_43, fw_ptr_44, fw_ptr_45, fw_ptr_46, fw_ptr_47, fw_ptr_48, fw_ptr_49, fw_ptr_50, fw_ptr_51, fw_ptr_52, fw_ptr_53, fw_ptr_54, fw_ptr_55, fw_ptr_12, fw_ptr_x, fw_ptr_hi, fw_ptr_b3, fw_ptr_b1, fw_ptr_b2, fw_ptr_b2_]; assumption)) only [fw_b_39_0, fw_b_39_5, fw_b_39_8, fw_b_39_17, fs_pHas_t, ↓if_pos, ↓if_neg, if_neg, if_pos, fw_bs, fw_cn_0, fw_cn_1, fw_cn_2, fw_cn_3, fw_cn_4, fw_cn_5, Nat.reduceAdd, fw_w_id, fw_wl_id, fw_r_k, fw_r_j, fw_r_s, if_true, if_false]
theorem fs_lastRoundsAt {σ : fw_M} {p : Int} (hp : fw_ptr σ) (h : fg_pok σ) (h0 : 0 ≤ p) (h1 : p < fw_r σ 2 5) : fw_E 40 0 [(2, 2), (0, p)] [] σ = some ((0, fw_r σ 6 p), σ) := by
  have hh := h
  unfold fg_pok at hh
  simp (disch := first | omega | assumption | (simp (disch := omega) only [fw_w_id, fw_wl_id, fw_r_k, fw_r_j, fw_r_s]; omega) | (simp only [fw_ptr_1_8, fw_ptr_2_5, fw_ptr_2_6, fw_ptr_2_7, fw_ptr_2_8, fw_ptr_2_9, fw_ptr_8_2, fw_ptr_8_3, fw_ptr_11_2, fw_ptr_11_3, fw_ptr_11_4, fw_ptr_11_5, fw_ptr_11_6, fw_ptr_17_8, fw_ptr_18_2, fw_ptr_18_3, fw_ptr_25_1, fw_ptr_27_2, fw_ptr_28_1, fw_ptr_32_0, fw_ptr_32_1, fw_ptr_32_3, fw_ptr_32_7, fw_ptr_32_8, fw_ptr_32_9, fw_ptr_32_10, fw_ptr_32_15, fw_ptr_32_16, fw_ptr_32_17, fw_ptr_32_18, fw_ptr_32_19, fw_ptr_32_25, fw_ptr_32_29, fw_ptr_3, fw_ptr_4, fw_ptr_5, fw_ptr_6, fw_ptr_7, fw_ptr_9, fw_ptr_10, fw_ptr_13, fw_ptr_15, fw_ptr_16, fw_ptr_19, fw_ptr_20, fw_ptr_21, fw_ptr_22, fw_ptr_23, fw_ptr_24, fw_ptr_26, fw_ptr_29, fw_ptr_30, fw_ptr_31, fw_ptr_33, fw_ptr_34, fw_ptr_35, fw_ptr_36, fw_ptr_37, fw_ptr_38, fw_ptr_39, fw_ptr_40, fw_ptr_41, fw_ptr_42, fw_ptr_43, fw_ptr_44, fw_ptr_45, fw_ptr_46, fw_ptr_47, fw_ptr_48, fw_ptr_49, fw_ptr_50, fw_ptr_51, fw_ptr_52, fw_ptr_53, fw_ptr_54, fw_ptr_55, fw_ptr_12, fw_ptr_x, fw_ptr_hi, fw_ptr_b3, fw_ptr_b1, fw_ptr_b2, fw_ptr_b2_]; assumption)) only [fw_b_40_0, fw_b_40_5, fw_b_40_8, fw_b_40_17, fs_pHas_t, ↓if_pos, ↓if_neg, if_neg, if_pos, fw_bs, fw_cn_0, fw_cn_1, fw_cn_2, fw_cn_3, fw_cn_4, fw_cn_5, Nat.reduceAdd, fw_w_id, fw_wl_id, fw_r_k, fw_r_j, fw_r_s, if_true, if_false]
theorem fs_truckAt {σ : fw_M} {p : Int} (hp : fw_ptr σ) (h : fg_pok σ) (h0 : 0 ≤ p) (h1 : p < fw_r σ 2 5) : fw_E 41 0 [(2, 2), (0, p)] [] σ = some ((0, fw_r σ 7 p), σ) := by
  have hh := h
  unfold fg_pok at hh
  simp (disch := first | omega | assumption | (simp (disch := omega) only [fw_w_id, fw_wl_id, fw_r_k, fw_r_j, fw_r_s]; omega) | (simp only [fw_ptr_1_8, fw_ptr_2_5, fw_ptr_2_6, fw_ptr_2_7, fw_ptr_2_8, fw_ptr_2_9, fw_ptr_8_2, fw_ptr_8_3, fw_ptr_11_2, fw_ptr_11_3, fw_ptr_11_4, fw_ptr_11_5, fw_ptr_11_6, fw_ptr_17_8, fw_ptr_18_2, fw_ptr_18_3, fw_ptr_25_1, fw_ptr_27_2, fw_ptr_28_1, fw_ptr_32_0, fw_ptr_32_1, fw_ptr_32_3, fw_ptr_32_7, fw_ptr_32_8, fw_ptr_32_9, fw_ptr_32_10, fw_ptr_32_15, fw_ptr_32_16, fw_ptr_32_17, fw_ptr_32_18, fw_ptr_32_19, fw_ptr_32_25, fw_ptr_32_29, fw_ptr_3, fw_ptr_4, fw_ptr_5, fw_ptr_6, fw_ptr_7, fw_ptr_9, fw_ptr_10, fw_ptr_13, fw_ptr_15, fw_ptr_16, fw_ptr_19, fw_ptr_20, fw_ptr_21, fw_ptr_22, fw_ptr_23, fw_ptr_24, fw_ptr_26, fw_ptr_29, fw_ptr_30, fw_ptr_31, fw_ptr_33, fw_ptr_34, fw_ptr_35, fw_ptr_36, fw_ptr_37, fw_ptr_38, fw_ptr_39, fw_ptr_40, fw_ptr_41, fw_ptr_42, fw_ptr_43, fw_ptr_44, fw_ptr_45, fw_ptr_46, fw_ptr_47, fw_ptr_48, fw_ptr_49, fw_ptr_50, fw_ptr_51, fw_ptr_52, fw_ptr_53, fw_ptr_54, fw_ptr_55, fw_ptr_12, fw_ptr_x, fw_ptr_hi, fw_ptr_b3, fw_ptr_b1, fw_ptr_b2, fw_ptr_b2_]; assumption)) only [fw_b_41_0, fw_b_41_5, fw_b_41_8, fw_b_41_17, fs_pHas_t, ↓if_pos, ↓if_neg, if_neg, if_pos, fw_bs, fw_cn_0, fw_cn_1, fw_cn_2, fw_cn_3, fw_cn_4, fw_cn_5, Nat.reduceAdd, fw_w_id, fw_wl_id, fw_r_k, fw_r_j, fw_r_s, if_true, if_false]
def fg_ldf (σ : fw_M) (r : Int) : Int → Int := fun j => if (fw_r σ 5 j = 119 ∨ fw_r σ 5 j = 108) ∧ fw_r σ 3 j = r then fw_r σ 4 j else 0
theorem fs_loadOf_lp {σ : fw_M} {r : Int} (hp : fw_ptr σ) (h : fg_pok σ) (hw : ∀ j, 0 ≤ j → j < fw_r σ 2 5 → 1 ≤ fw_r σ 4 j ∧ fw_r σ 4 j ≤ 9) : ∀ (k : Nat) (i acc : Int) (a4 : fw_V), 0 ≤ i → i + k = fw_r σ 2 5 → 0 ≤ acc → acc ≤ 9 * i → fw_E 42 4 [(2, 2), (0, r), (0, acc), (0, i), a4] [] σ = some ((0, acc + fg_sf (fg_ldf σ r) i k), σ) := by
  intro k
  unfold fg_pok at h
  induction k with
  | zero =>
    intro i acc a4 h0 h1 h2 h3
    simp (disch := first | omega | assumption | (simp (disch := omega) only [fw_w_id, fw_wl_id, fw_r_k, fw_r_j, fw_r_s]; omega) | (simp only [fw_ptr_1_8, fw_ptr_2_5, fw_ptr_2_6, fw_ptr_2_7, fw_ptr_2_8, fw_ptr_2_9, fw_ptr_8_2, fw_ptr_8_3, fw_ptr_11_2, fw_ptr_11_3, fw_ptr_11_4, fw_ptr_11_5, fw_ptr_11_6, fw_ptr_17_8, fw_ptr_18_2, fw_ptr_18_3, fw_ptr_25_1, fw_ptr_27_2, fw_ptr_28_1, fw_ptr_32_0, fw_ptr_32_1, fw_ptr_32_3, fw_ptr_32_7, fw_ptr_32_8, fw_ptr_32_9, fw_ptr_32_10, fw_ptr_32_15, fw_ptr_32_16, fw_ptr_32_17, fw_ptr_32_18, fw_ptr_32_19, fw_ptr_32_25, fw_ptr_32_29, fw_ptr_3, fw_ptr_4, fw_ptr_5, fw_ptr_6, fw_ptr_7, fw_ptr_9, fw_ptr_10, fw_ptr_13, fw_ptr_15, fw_ptr_16, fw_ptr_19, fw_ptr_20, fw_ptr_21, fw_ptr_22, fw_ptr_23, fw_ptr_24, fw_ptr_26, fw_ptr_29, fw_ptr_30, fw_ptr_31, fw_ptr_33, fw_ptr_34, fw_ptr_35, fw_ptr_36, fw_ptr_37, fw_ptr_38, fw_ptr_39, fw_ptr_40, fw_ptr_41, fw_ptr_42, fw_ptr_43, fw_ptr_44, fw_ptr_45, fw_ptr_46, fw_ptr_47, fw_ptr_48, fw_ptr_49, fw_ptr_50, fw_ptr_51, fw_ptr_52, fw_ptr_53, fw_ptr_54, fw_ptr_55, fw_ptr_12, fw_ptr_x, fw_ptr_hi, fw_ptr_b3, fw_ptr_b1, fw_ptr_b2, fw_ptr_b2_]; assumption)) only [fw_b_42_0, fw_b_42_4, fw_b_42_78, fw_b_42_12, fw_b_42_19, fw_b_42_30, fw_b_42_45, fw_b_42_53, fw_b_42_72, fw_b_42_63, fw_b_42_41, ↓if_pos, ↓if_neg, if_neg, if_pos, fw_bs, fw_cn_0, fw_cn_1, fw_cn_2, fw_cn_3, fw_cn_4, fw_cn_5, Nat.reduceAdd, fw_w_id, fw_wl_id, fw_r_k, fw_r_j, fw_r_s, if_true, if_false, fg_sf, Int.add_zero]
  | succ k ih =>
    intro i acc a4 h0 h1 h2 h3
    have hwi := hw i h0 (by omega)
    have e : ∀ v, v = acc + fg_ldf σ r i → ∀ a4, fw_E 42 4 [(2, 2), (0, r), (0, v), (0, i + 1), a4] [] σ = some ((0, acc + fg_sf (fg_ldf σ r) i (k + 1)), σ) := by
      intro v hv a4
      have hb : 0 ≤ fg_ldf σ r i ∧ fg_ldf σ r i ≤ 9 := by unfold fg_ldf; split <;> omega
      rw [ih (i + 1) v a4 (by omega) (by omega) (by omega) (by omega), fg_sf, hv, Int.add_assoc]
    by_cases c1 : fw_r σ 5 i = 119
    · by_cases c2 : fw_r σ 3 i = r
      · have hv : fg_ldf σ r i = fw_r σ 4 i := if_pos ⟨Or.inl c1, c2⟩
        rw [fw_b_42_4]
        simp (disch := first | omega | assumption | (simp (disch := omega) only [fw_w_id, fw_wl_id, fw_r_k, fw_r_j, fw_r_s]; omega) | (simp only [fw_ptr_1_8, fw_ptr_2_5, fw_ptr_2_6, fw_ptr_2_7, fw_ptr_2_8, fw_ptr_2_9, fw_ptr_8_2, fw_ptr_8_3, fw_ptr_11_2, fw_ptr_11_3, fw_ptr_11_4, fw_ptr_11_5, fw_ptr_11_6, fw_ptr_17_8, fw_ptr_18_2, fw_ptr_18_3, fw_ptr_25_1, fw_ptr_27_2, fw_ptr_28_1, fw_ptr_32_0, fw_ptr_32_1, fw_ptr_32_3, fw_ptr_32_7, fw_ptr_32_8, fw_ptr_32_9, fw_ptr_32_10, fw_ptr_32_15, fw_ptr_32_16, fw_ptr_32_17, fw_ptr_32_18, fw_ptr_32_19, fw_ptr_32_25, fw_ptr_32_29, fw_ptr_3, fw_ptr_4, fw_ptr_5, fw_ptr_6, fw_ptr_7, fw_ptr_9, fw_ptr_10, fw_ptr_13, fw_ptr_15, fw_ptr_16, fw_ptr_19, fw_ptr_20, fw_ptr_21, fw_ptr_22, fw_ptr_23, fw_ptr_24, fw_ptr_26, fw_ptr_29, fw_ptr_30, fw_ptr_31, fw_ptr_33, fw_ptr_34, fw_ptr_35, fw_ptr_36, fw_ptr_37, fw_ptr_38, fw_ptr_39, fw_ptr_40, fw_ptr_41, fw_ptr_42, fw_ptr_43, fw_ptr_44, fw_ptr_45, fw_ptr_46, fw_ptr_47, fw_ptr_48, fw_ptr_49, fw_ptr_50, fw_ptr_51, fw_ptr_52, fw_ptr_53, fw_ptr_54, fw_ptr_55, fw_ptr_12, fw_ptr_x, fw_ptr_hi, fw_ptr_b3, fw_ptr_b1, fw_ptr_b2, fw_ptr_b2_]; assumption)) only [fw_b_42_12, fw_b_42_19, fw_b_42_30, fw_b_42_41, fw_b_42_45, fw_b_42_53, fw_b_42_63, fw_b_42_72, ↓if_pos, ↓if_neg, if_neg, if_pos, fw_bs, fw_cn_0, fw_cn_1, fw_cn_2, fw_cn_3, fw_cn_4, fw_cn_5, Nat.reduceAdd, fw_w_id, fw_wl_id, fw_r_k, fw_r_j, fw_r_s, if_true, if_false]
        exact e _ (by rw [hv]) _
      · have hv : fg_ldf σ r i = 0 := if_neg (fun h => c2 h.2)
        rw [fw_b_42_4]
        simp (disch := first | omega | assumption | (simp (disch := omega) only [fw_w_id, fw_wl_id, fw_r_k, fw_r_j, fw_r_s]; omega) | (simp only [fw_ptr_1_8, fw_ptr_2_5, fw_ptr_2_6, fw_ptr_2_7, fw_ptr_2_8, fw_ptr_2_9, fw_ptr_8_2, fw_ptr_8_3, fw_ptr_11_2, fw_ptr_11_3, fw_ptr_11_4, fw_ptr_11_5, fw_ptr_11_6, fw_ptr_17_8, fw_ptr_18_2, fw_ptr_18_3, fw_ptr_25_1, fw_ptr_27_2, fw_ptr_28_1, fw_ptr_32_0, fw_ptr_32_1, fw_ptr_32_3, fw_ptr_32_7, fw_ptr_32_8, fw_ptr_32_9, fw_ptr_32_10, fw_ptr_32_15, fw_ptr_32_16, fw_ptr_32_17, fw_ptr_32_18, fw_ptr_32_19, fw_ptr_32_25, fw_ptr_32_29, fw_ptr_3, fw_ptr_4, fw_ptr_5, fw_ptr_6, fw_ptr_7, fw_ptr_9, fw_ptr_10, fw_ptr_13, fw_ptr_15, fw_ptr_16, fw_ptr_19, fw_ptr_20, fw_ptr_21, fw_ptr_22, fw_ptr_23, fw_ptr_24, fw_ptr_26, fw_ptr_29, fw_ptr_30, fw_ptr_31, fw_ptr_33, fw_ptr_34, fw_ptr_35, fw_ptr_36, fw_ptr_37, fw_ptr_38, fw_ptr_39, fw_ptr_40, fw_ptr_41, fw_ptr_42, fw_ptr_43, fw_ptr_44, fw_ptr_45, fw_ptr_46, fw_ptr_47, fw_ptr_48, fw_ptr_49, fw_ptr_50, fw_ptr_51, fw_ptr_52, fw_ptr_53, fw_ptr_54, fw_ptr_55, fw_ptr_12, fw_ptr_x, fw_ptr_hi, fw_ptr_b3, fw_ptr_b1, fw_ptr_b2, fw_ptr_b2_]; assumption)) only [fw_b_42_12, fw_b_42_19, fw_b_42_30, fw_b_42_41, fw_b_42_45, fw_b_42_53, fw_b_42_63, fw_b_42_72, ↓if_pos, ↓if_neg, if_neg, if_pos, fw_bs, fw_cn_0, fw_cn_1, fw_cn_2, fw_cn_3, fw_cn_4, fw_cn_5, Nat.reduceAdd, fw_w_id, fw_wl_id, fw_r_k, fw_r_j, fw_r_s, if_true, if_false]
        exact e _ (by rw [hv]; omega) _
    · by_cases c3 : fw_r σ 5 i = 108
      · by_cases c2 : fw_r σ 3 i = r
        · have hv : fg_ldf σ r i = fw_r σ 4 i := if_pos ⟨Or.inr c3, c2⟩
          rw [fw_b_42_4]
          simp (disch := first | omega | assumption | (simp (disch := omega) only [fw_w_id, fw_wl_id, fw_r_k, fw_r_j, fw_r_s]; omega) | (simp only [fw_ptr_1_8, fw_ptr_2_5, fw_ptr_2_6, fw_ptr_2_7, fw_ptr_2_8, fw_ptr_2_9, fw_ptr_8_2, fw_ptr_8_3, fw_ptr_11_2, fw_ptr_11_3, fw_ptr_11_4, fw_ptr_11_5, fw_ptr_11_6, fw_ptr_17_8, fw_ptr_18_2, fw_ptr_18_3, fw_ptr_25_1, fw_ptr_27_2, fw_ptr_28_1, fw_ptr_32_0, fw_ptr_32_1, fw_ptr_32_3, fw_ptr_32_7, fw_ptr_32_8, fw_ptr_32_9, fw_ptr_32_10, fw_ptr_32_15, fw_ptr_32_16, fw_ptr_32_17, fw_ptr_32_18, fw_ptr_32_19, fw_ptr_32_25, fw_ptr_32_29, fw_ptr_3, fw_ptr_4, fw_ptr_5, fw_ptr_6, fw_ptr_7, fw_ptr_9, fw_ptr_10, fw_ptr_13, fw_ptr_15, fw_ptr_16, fw_ptr_19, fw_ptr_20, fw_ptr_21, fw_ptr_22, fw_ptr_23, fw_ptr_24, fw_ptr_26, fw_ptr_29, fw_ptr_30, fw_ptr_31, fw_ptr_33, fw_ptr_34, fw_ptr_35, fw_ptr_36, fw_ptr_37, fw_ptr_38, fw_ptr_39, fw_ptr_40, fw_ptr_41, fw_ptr_42, fw_ptr_43, fw_ptr_44, fw_ptr_45, fw_ptr_46, fw_ptr_47, fw_ptr_48, fw_ptr_49, fw_ptr_50, fw_ptr_51, fw_ptr_52, fw_ptr_53, fw_ptr_54, fw_ptr_55, fw_ptr_12, fw_ptr_x, fw_ptr_hi, fw_ptr_b3, fw_ptr_b1, fw_ptr_b2, fw_ptr_b2_]; assumption)) only [fw_b_42_12, fw_b_42_19, fw_b_42_30, fw_b_42_41, fw_b_42_45, fw_b_42_53, fw_b_42_63, fw_b_42_72, ↓if_pos, ↓if_neg, if_neg, if_pos, fw_bs, fw_cn_0, fw_cn_1, fw_cn_2, fw_cn_3, fw_cn_4, fw_cn_5, Nat.reduceAdd, fw_w_id, fw_wl_id, fw_r_k, fw_r_j, fw_r_s, if_true, if_false]
          exact e _ (by rw [hv]) _
        · have hv : fg_ldf σ r i = 0 := if_neg (fun h => c2 h.2)
          rw [fw_b_42_4]
          simp (disch := first | omega | assumption | (simp (disch := omega) only [fw_w_id, fw_wl_id, fw_r_k, fw_r_j, fw_r_s]; omega) | (simp only [fw_ptr_1_8, fw_ptr_2_5, fw_ptr_2_6, fw_ptr_2_7, fw_ptr_2_8, fw_ptr_2_9, fw_ptr_8_2, fw_ptr_8_3, fw_ptr_11_2, fw_ptr_11_3, fw_ptr_11_4, fw_ptr_11_5, fw_ptr_11_6, fw_ptr_17_8, fw_ptr_18_2, fw_ptr_18_3, fw_ptr_25_1, fw_ptr_27_2, fw_ptr_28_1, fw_ptr_32_0, fw_ptr_32_1, fw_ptr_32_3, fw_ptr_32_7, fw_ptr_32_8, fw_ptr_32_9, fw_ptr_32_10, fw_ptr_32_15, fw_ptr_32_16, fw_ptr_32_17, fw_ptr_32_18, fw_ptr_32_19, fw_ptr_32_25, fw_ptr_32_29, fw_ptr_3, fw_ptr_4, fw_ptr_5, fw_ptr_6, fw_ptr_7, fw_ptr_9, fw_ptr_10, fw_ptr_13, fw_ptr_15, fw_ptr_16, fw_ptr_19, fw_ptr_20, fw_ptr_21, fw_ptr_22, fw_ptr_23, fw_ptr_24, fw_ptr_26, fw_ptr_29, fw_ptr_30, fw_ptr_31, fw_ptr_33, fw_ptr_34, fw_ptr_35, fw_ptr_36, fw_ptr_37, fw_ptr_38, fw_ptr_39, fw_ptr_40, fw_ptr_41, fw_ptr_42, fw_ptr_43, fw_ptr_44, fw_ptr_45, fw_ptr_46, fw_ptr_47, fw_ptr_48, fw_ptr_49, fw_ptr_50, fw_ptr_51, fw_ptr_52, fw_ptr_53, fw_ptr_54, fw_ptr_55, fw_ptr_12, fw_ptr_x, fw_ptr_hi, fw_ptr_b3, fw_ptr_b1, fw_ptr_b2, fw_ptr_b2_]; assumption)) only [fw_b_42_12, fw_b_42_19, fw_b_42_30, fw_b_42_41, fw_b_42_45, fw_b_42_53, fw_b_42_63, fw_b_42_72, ↓if_pos, ↓if_neg, if_neg, if_pos, fw_bs, fw_cn_0, fw_cn_1, fw_cn_2, fw_cn_3, fw_cn_4, fw_cn_5, Nat.reduceAdd, fw_w_id, fw_wl_id, fw_r_k, fw_r_j, fw_r_s, if_true, if_false]
          exact e _ (by rw [hv]; omega) _
      · have hv : fg_ldf σ r i = 0 := if_neg (fun h => h.1.elim c1 c3)
        rw [fw_b_42_4]
        simp (disch := first | omega | assumption | (simp (disch := omega) only [fw_w_id, fw_wl_id, fw_r_k, fw_r_j, fw_r_s]; omega) | (simp only [fw_ptr_1_8, fw_ptr_2_5, fw_ptr_2_6, fw_ptr_2_7, fw_ptr_2_8, fw_ptr_2_9, fw_ptr_8_2, fw_ptr_8_3, fw_ptr_11_2, fw_ptr_11_3, fw_ptr_11_4, fw_ptr_11_5, fw_ptr_11_6, fw_ptr_17_8, fw_ptr_18_2, fw_ptr_18_3, fw_ptr_25_1, fw_ptr_27_2, fw_ptr_28_1, fw_ptr_32_0, fw_ptr_32_1, fw_ptr_32_3, fw_ptr_32_7, fw_ptr_32_8, fw_ptr_32_9, fw_ptr_32_10, fw_ptr_32_15, fw_ptr_32_16, fw_ptr_32_17, fw_ptr_32_18, fw_ptr_32_19, fw_ptr_32_25, fw_ptr_32_29, fw_ptr_3, fw_ptr_4, fw_ptr_5, fw_ptr_6, fw_ptr_7, fw_ptr_9, fw_ptr_10, fw_ptr_13, fw_ptr_15, fw_ptr_16, fw_ptr_19, fw_ptr_20, fw_ptr_21, fw_ptr_22, fw_ptr_23, fw_ptr_24, fw_ptr_26, fw_ptr_29, fw_ptr_30, fw_ptr_31, fw_ptr_33, fw_ptr_34, fw_ptr_35, fw_ptr_36, fw_ptr_37, fw_ptr_38, fw_ptr_39, fw_ptr_40, fw_ptr_41, fw_ptr_42, fw_ptr_43, fw_ptr_44, fw_ptr_45, fw_ptr_46, fw_ptr_47, fw_ptr_48, fw_ptr_49, fw_ptr_50, fw_ptr_51, fw_ptr_52, fw_ptr_53, fw_ptr_54, fw_ptr_55, fw_ptr_12, fw_ptr_x, fw_ptr_hi, fw_ptr_b3, fw_ptr_b1, fw_ptr_b2, fw_ptr_b2_]; assumption)) only [fw_b_42_12, fw_b_42_19, fw_b_42_30, fw_b_42_41, fw_b_42_45, fw_b_42_53, fw_b_42_63, fw_b_42_72, ↓if_pos, ↓if_neg, if_neg, if_pos, fw_bs, fw_cn_0, fw_cn_1, fw_cn_2, fw_cn_3, fw_cn_4, fw_cn_5, Nat.reduceAdd, fw_w_id, fw_wl_id, fw_r_k, fw_r_j, fw_r_s, if_true, if_false]
        exact e _ (by rw [hv]; omega) _
theorem fs_loadOf {σ : fw_M} {r : Int} {a2 a3 a4 : fw_V} (hp : fw_ptr σ) (h : fg_pok σ) (hw : ∀ j, 0 ≤ j → j < fw_r σ 2 5 → 1 ≤ fw_r σ 4 j ∧ fw_r σ 4 j ≤ 9) : fw_E 42 0 [(2, 2), (0, r), a2, a3, a4] [] σ = some ((0, fg_sf (fg_ldf σ r) 0 (fw_r σ 2 5).toNat), σ) := by
  have hh := h
  unfold fg_pok at hh
  rw [fw_b_42_0, fs_loadOf_lp hp h hw (fw_r σ 2 5).toNat 0 0 a4 (by omega) (by omega) (by omega) (by omega), Int.zero_add]
/-! rows -/
theorem fs_at {σ : fw_M} {r i : Int} (hr : fw_rw σ r) (h0 : 0 ≤ i) (h1 : i < fw_r σ r 1) (h2 : fw_r σ r 1 ≤ fw_ln (r + 1)) : fw_E 44 0 [(2, r), (0, i)] [] σ = some ((0, fw_r σ (r + 1) i), σ) := by
  simp (disch := first | omega | assumption | (simp (disch := omega) only [fw_w_id, fw_wl_id, fw_r_k, fw_r_j, fw_r_s]; omega) | (simp only [fw_ptr_1_8, fw_ptr_2_5, fw_ptr_2_6, fw_ptr_2_7, fw_ptr_2_8, fw_ptr_2_9, fw_ptr_8_2, fw_ptr_8_3, fw_ptr_11_2, fw_ptr_11_3, fw_ptr_11_4, fw_ptr_11_5, fw_ptr_11_6, fw_ptr_17_8, fw_ptr_18_2, fw_ptr_18_3, fw_ptr_25_1, fw_ptr_27_2, fw_ptr_28_1, fw_ptr_32_0, fw_ptr_32_1, fw_ptr_32_3, fw_ptr_32_7, fw_ptr_32_8, fw_ptr_32_9, fw_ptr_32_10, fw_ptr_32_15, fw_ptr_32_16, fw_ptr_32_17, fw_ptr_32_18, fw_ptr_32_19, fw_ptr_32_25, fw_ptr_32_29, fw_ptr_3, fw_ptr_4, fw_ptr_5, fw_ptr_6, fw_ptr_7, fw_ptr_9, fw_ptr_10, fw_ptr_13, fw_ptr_15, fw_ptr_16, fw_ptr_19, fw_ptr_20, fw_ptr_21, fw_ptr_22, fw_ptr_23, fw_ptr_24, fw_ptr_26, fw_ptr_29, fw_ptr_30, fw_ptr_31, fw_ptr_33, fw_ptr_34, fw_ptr_35, fw_ptr_36, fw_ptr_37, fw_ptr_38, fw_ptr_39, fw_ptr_40, fw_ptr_41, fw_ptr_42, fw_ptr_43, fw_ptr_44, fw_ptr_45, fw_ptr_46, fw_ptr_47, fw_ptr_48, fw_ptr_49, fw_ptr_50, fw_ptr_51, fw_ptr_52, fw_ptr_53, fw_ptr_54, fw_ptr_55, fw_ptr_12, fw_ptr_x, fw_ptr_hi, fw_ptr_b3, fw_ptr_b1, fw_ptr_b2, fw_ptr_b2_]; assumption)) only [fw_b_44_0, fw_b_44_4, fw_b_44_30, fw_b_44_12, fw_b_44_21, ↓if_pos, ↓if_neg, if_neg, if_pos, fw_bs, fw_cn_0, fw_cn_1, fw_cn_2, fw_cn_3, fw_cn_4, fw_cn_5, Nat.reduceAdd, fw_w_id, fw_wl_id, fw_r_k, fw_r_j, fw_r_s, if_true, if_false]
theorem fs_at_f {σ : fw_M} {r i : Int} (hr : fw_rw σ r) (h : ¬(0 ≤ i ∧ i < fw_r σ r 1)) : fw_E 44 0 [(2, r), (0, i)] [] σ = some ((0, -1), σ) := by
  by_cases h0 : i < 0
  · simp (disch := first | omega | assumption | (simp (disch := omega) only [fw_w_id, fw_wl_id, fw_r_k, fw_r_j, fw_r_s]; omega) | (simp only [fw_ptr_1_8, fw_ptr_2_5, fw_ptr_2_6, fw_ptr_2_7, fw_ptr_2_8, fw_ptr_2_9, fw_ptr_8_2, fw_ptr_8_3, fw_ptr_11_2, fw_ptr_11_3, fw_ptr_11_4, fw_ptr_11_5, fw_ptr_11_6, fw_ptr_17_8, fw_ptr_18_2, fw_ptr_18_3, fw_ptr_25_1, fw_ptr_27_2, fw_ptr_28_1, fw_ptr_32_0, fw_ptr_32_1, fw_ptr_32_3, fw_ptr_32_7, fw_ptr_32_8, fw_ptr_32_9, fw_ptr_32_10, fw_ptr_32_15, fw_ptr_32_16, fw_ptr_32_17, fw_ptr_32_18, fw_ptr_32_19, fw_ptr_32_25, fw_ptr_32_29, fw_ptr_3, fw_ptr_4, fw_ptr_5, fw_ptr_6, fw_ptr_7, fw_ptr_9, fw_ptr_10, fw_ptr_13, fw_ptr_15, fw_ptr_16, fw_ptr_19, fw_ptr_20, fw_ptr_21, fw_ptr_22, fw_ptr_23, fw_ptr_24, fw_ptr_26, fw_ptr_29, fw_ptr_30, fw_ptr_31, fw_ptr_33, fw_ptr_34, fw_ptr_35, fw_ptr_36, fw_ptr_37, fw_ptr_38, fw_ptr_39, fw_ptr_40, fw_ptr_41, fw_ptr_42, fw_ptr_43, fw_ptr_44, fw_ptr_45, fw_ptr_46, fw_ptr_47, fw_ptr_48, fw_ptr_49, fw_ptr_50, fw_ptr_51, fw_ptr_52, fw_ptr_53, fw_ptr_54, fw_ptr_55, fw_ptr_12, fw_ptr_x, fw_ptr_hi, fw_ptr_b3, fw_ptr_b1, fw_ptr_b2, fw_ptr_b2_]; assumption)) only [fw_b_44_0, fw_b_44_4, fw_b_44_30, fw_b_44_12, fw_b_44_21, ↓if_pos, ↓if_neg, if_neg, if_pos, fw_bs, fw_cn_0, fw_cn_1, fw_cn_2, fw_cn_3, fw_cn_4, fw_cn_5, Nat.reduceAdd, fw_w_id, fw_wl_id, fw_r_k, fw_r_j, fw_r_s, if_true, if_false]
  · simp (disch := first | omega | assumption | (simp (disch := omega) only [fw_w_id, fw_wl_id, fw_r_k, fw_r_j, fw_r_s]; omega) | (simp only [fw_ptr_1_8, fw_ptr_2_5, fw_ptr_2_6, fw_ptr_2_7, fw_ptr_2_8, fw_ptr_2_9, fw_ptr_8_2, fw_ptr_8_3, fw_ptr_11_2, fw_ptr_11_3, fw_ptr_11_4, fw_ptr_11_5, fw_ptr_11_6, fw_ptr_17_8, fw_ptr_18_2, fw_ptr_18_3, fw_ptr_25_1, fw_ptr_27_2, fw_ptr_28_1, fw_ptr_32_0, fw_ptr_32_1, fw_ptr_32_3, fw_ptr_32_7, fw_ptr_32_8, fw_ptr_32_9, fw_ptr_32_10, fw_ptr_32_15, fw_ptr_32_16, fw_ptr_32_17, fw_ptr_32_18, fw_ptr_32_19, fw_ptr_32_25, fw_ptr_32_29, fw_ptr_3, fw_ptr_4, fw_ptr_5, fw_ptr_6, fw_ptr_7, fw_ptr_9, fw_ptr_10, fw_ptr_13, fw_ptr_15, fw_ptr_16, fw_ptr_19, fw_ptr_20, fw_ptr_21, fw_ptr_22, fw_ptr_23, fw_ptr_24, fw_ptr_26, fw_ptr_29, fw_ptr_30, fw_ptr_31, fw_ptr_33, fw_ptr_34, fw_ptr_35, fw_ptr_36, fw_ptr_37, fw_ptr_38, fw_ptr_39, fw_ptr_40, fw_ptr_41, fw_ptr_42, fw_ptr_43, fw_ptr_44, fw_ptr_45, fw_ptr_46, fw_ptr_47, fw_ptr_48, fw_ptr_49, fw_ptr_50, fw_ptr_51, fw_ptr_52, fw_ptr_53, fw_ptr_54, fw_ptr_55, fw_ptr_12, fw_ptr_x, fw_ptr_hi, fw_ptr_b3, fw_ptr_b1, fw_ptr_b2, fw_ptr_b2_]; assumption)) only [fw_b_44_0, fw_b_44_4, fw_b_44_30, fw_b_44_12, fw_b_44_21, ↓if_pos, ↓if_neg, if_neg, if_pos, fw_bs, fw_cn_0, fw_cn_1, fw_cn_2, fw_cn_3, fw_cn_4, fw_cn_5, Nat.reduceAdd, fw_w_id, fw_wl_id, fw_r_k, fw_r_j, fw_r_s, if_true, if_false]
def fg_ad (σ : fw_M) (r v : Int) : fw_M := fw_u (fw_u σ (r + 1) (fw_r σ r 1) v) r 1 (fw_r σ r 1 + 1)
theorem fw_rw_u {σ : fw_M} {r k j v : Int} (h : fw_rw σ r) (h1 : r ≠ k ∨ j ≠ 0) : fw_rw (fw_u σ k j v) r := by
  refine ⟨h.1, h.2.1, ?_⟩
  rw [fw_r_u, if_neg]
  · exact h.2.2
  · intro hc; have := hc.2; omega
theorem fs_rAdd {σ : fw_M} {r v : Int} (hr : fw_rw σ r) (h0 : 0 ≤ fw_r σ r 1) (h1 : fw_r σ r 1 < fw_ln (r + 1)) (h2 : fw_ln (r + 1) ≤ 300) : fw_E 45 0 [(2, r), (0, v)] [] σ = some ((5, 0), fg_ad σ r v) := by
  have hr2 : fw_rw (fw_u σ (r + 1) (fw_r σ r 1) v) r := fw_rw_u hr (by omega)
  unfold fg_ad
  simp (disch := first | omega | assumption | (simp (disch := omega) only [fw_w_id, fw_wl_id, fw_r_k, fw_r_j, fw_r_s]; omega) | (simp only [fw_ptr_1_8, fw_ptr_2_5, fw_ptr_2_6, fw_ptr_2_7, fw_ptr_2_8, fw_ptr_2_9, fw_ptr_8_2, fw_ptr_8_3, fw_ptr_11_2, fw_ptr_11_3, fw_ptr_11_4, fw_ptr_11_5, fw_ptr_11_6, fw_ptr_17_8, fw_ptr_18_2, fw_ptr_18_3, fw_ptr_25_1, fw_ptr_27_2, fw_ptr_28_1, fw_ptr_32_0, fw_ptr_32_1, fw_ptr_32_3, fw_ptr_32_7, fw_ptr_32_8, fw_ptr_32_9, fw_ptr_32_10, fw_ptr_32_15, fw_ptr_32_16, fw_ptr_32_17, fw_ptr_32_18, fw_ptr_32_19, fw_ptr_32_25, fw_ptr_32_29, fw_ptr_3, fw_ptr_4, fw_ptr_5, fw_ptr_6, fw_ptr_7, fw_ptr_9, fw_ptr_10, fw_ptr_13, fw_ptr_15, fw_ptr_16, fw_ptr_19, fw_ptr_20, fw_ptr_21, fw_ptr_22, fw_ptr_23, fw_ptr_24, fw_ptr_26, fw_ptr_29, fw_ptr_30, fw_ptr_31, fw_ptr_33, fw_ptr_34, fw_ptr_35, fw_ptr_36, fw_ptr_37, fw_ptr_38, fw_ptr_39, fw_ptr_40, fw_ptr_41, fw_ptr_42, fw_ptr_43, fw_ptr_44, fw_ptr_45, fw_ptr_46, fw_ptr_47, fw_ptr_48, fw_ptr_49, fw_ptr_50, fw_ptr_51, fw_ptr_52, fw_ptr_53, fw_ptr_54, fw_ptr_55, fw_ptr_12, fw_ptr_x, fw_ptr_hi, fw_ptr_b3, fw_ptr_b1, fw_ptr_b2, fw_ptr_b2_]; assumption)) only [fw_b_45_0, fw_b_45_7, fw_b_45_39, fw_b_45_19, fw_b_45_29, ↓if_pos, ↓if_neg, if_neg, if_pos, fw_bs, fw_cn_0, fw_cn_1, fw_cn_2, fw_cn_3, fw_cn_4, fw_cn_5, Nat.reduceAdd, fw_w_id, fw_wl_id, fw_r_k, fw_r_j, fw_r_s, if_true, if_false]
theorem fs_sealOf_lp {σ : fw_M} {r e : Int} (hr : fw_rw σ r) (he : e ≤ fw_r σ r 1) (h2 : fw_r σ r 1 ≤ fw_ln (r + 1)) (h3 : fw_ln (r + 1) ≤ 300) (hv : ∀ j, 0 ≤ j → j < fw_r σ r 1 → 0 ≤ fw_r σ (r + 1) j ∧ fw_r σ (r + 1) j ≤ 300) (x1 : Int) : ∀ (k : Nat) (i a b : Int), 0 ≤ i → i + k = e → 0 ≤ a → a < 9973 → 0 ≤ b → b < 9973 → fw_E 46 8 [(2, r), (0, x1), (0, e), (0, a), (0, b), (0, i)] [] σ = some ((0, 10000 * (fg_se (fw_r σ (r + 1)) i k (a, b)).2 + (fg_se (fw_r σ (r + 1)) i k (a, b)).1), σ) := by
  intro k
  induction k with
  | zero =>
    intro i a b h0 h1 ha ha2 hb hb2
    simp (disch := first | omega | assumption | (simp (disch := omega) only [fw_w_id, fw_wl_id, fw_r_k, fw_r_j, fw_r_s]; omega) | (simp only [fw_ptr_1_8, fw_ptr_2_5, fw_ptr_2_6, fw_ptr_2_7, fw_ptr_2_8, fw_ptr_2_9, fw_ptr_8_2, fw_ptr_8_3, fw_ptr_11_2, fw_ptr_11_3, fw_ptr_11_4, fw_ptr_11_5, fw_ptr_11_6, fw_ptr_17_8, fw_ptr_18_2, fw_ptr_18_3, fw_ptr_25_1, fw_ptr_27_2, fw_ptr_28_1, fw_ptr_32_0, fw_ptr_32_1, fw_ptr_32_3, fw_ptr_32_7, fw_ptr_32_8, fw_ptr_32_9, fw_ptr_32_10, fw_ptr_32_15, fw_ptr_32_16, fw_ptr_32_17, fw_ptr_32_18, fw_ptr_32_19, fw_ptr_32_25, fw_ptr_32_29, fw_ptr_3, fw_ptr_4, fw_ptr_5, fw_ptr_6, fw_ptr_7, fw_ptr_9, fw_ptr_10, fw_ptr_13, fw_ptr_15, fw_ptr_16, fw_ptr_19, fw_ptr_20, fw_ptr_21, fw_ptr_22, fw_ptr_23, fw_ptr_24, fw_ptr_26, fw_ptr_29, fw_ptr_30, fw_ptr_31, fw_ptr_33, fw_ptr_34, fw_ptr_35, fw_ptr_36, fw_ptr_37, fw_ptr_38, fw_ptr_39, fw_ptr_40, fw_ptr_41, fw_ptr_42, fw_ptr_43, fw_ptr_44, fw_ptr_45, fw_ptr_46, fw_ptr_47, fw_ptr_48, fw_ptr_49, fw_ptr_50, fw_ptr_51, fw_ptr_52, fw_ptr_53, fw_ptr_54, fw_ptr_55, fw_ptr_12, fw_ptr_x, fw_ptr_hi, fw_ptr_b3, fw_ptr_b1, fw_ptr_b2, fw_ptr_b2_]; assumption)) only [fw_b_46_0, fw_b_46_8, fw_b_46_45, fw_b_46_14, fw_b_46_21, ↓if_pos, ↓if_neg, if_neg, if_pos, fw_bs, fw_cn_0, fw_cn_1, fw_cn_2, fw_cn_3, fw_cn_4, fw_cn_5, Nat.reduceAdd, fw_w_id, fw_wl_id, fw_r_k, fw_r_j, fw_r_s, if_true, if_false, fg_se]
  | succ k ih =>
    intro i a b h0 h1 ha ha2 hb hb2
    have hvi := hv i h0 (by omega)
    rw [fw_b_46_8]
    simp (disch := first | omega | assumption | (simp (disch := omega) only [fw_w_id, fw_wl_id, fw_r_k, fw_r_j, fw_r_s]; omega) | (simp only [fw_ptr_1_8, fw_ptr_2_5, fw_ptr_2_6, fw_ptr_2_7, fw_ptr_2_8, fw_ptr_2_9, fw_ptr_8_2, fw_ptr_8_3, fw_ptr_11_2, fw_ptr_11_3, fw_ptr_11_4, fw_ptr_11_5, fw_ptr_11_6, fw_ptr_17_8, fw_ptr_18_2, fw_ptr_18_3, fw_ptr_25_1, fw_ptr_27_2, fw_ptr_28_1, fw_ptr_32_0, fw_ptr_32_1, fw_ptr_32_3, fw_ptr_32_7, fw_ptr_32_8, fw_ptr_32_9, fw_ptr_32_10, fw_ptr_32_15, fw_ptr_32_16, fw_ptr_32_17, fw_ptr_32_18, fw_ptr_32_19, fw_ptr_32_25, fw_ptr_32_29, fw_ptr_3, fw_ptr_4, fw_ptr_5, fw_ptr_6, fw_ptr_7, fw_ptr_9, fw_ptr_10, fw_ptr_13, fw_ptr_15, fw_ptr_16, fw_ptr_19, fw_ptr_20, fw_ptr_21, fw_ptr_22, fw_ptr_23, fw_ptr_24, fw_ptr_26, fw_ptr_29, fw_ptr_30, fw_ptr_31, fw_ptr_33, fw_ptr_34, fw_ptr_35, fw_ptr_36, fw_ptr_37, fw_ptr_38, fw_ptr_39, fw_ptr_40, fw_ptr_41, fw_ptr_42, fw_ptr_43, fw_ptr_44, fw_ptr_45, fw_ptr_46, fw_ptr_47, fw_ptr_48, fw_ptr_49, fw_ptr_50, fw_ptr_51, fw_ptr_52, fw_ptr_53, fw_ptr_54, fw_ptr_55, fw_ptr_12, fw_ptr_x, fw_ptr_hi, fw_ptr_b3, fw_ptr_b1, fw_ptr_b2, fw_ptr_b2_]; assumption)) only [fw_b_46_14, fw_b_46_21, fs_at, ↓if_pos, ↓if_neg, if_neg, if_pos, fw_bs, fw_cn_0, fw_cn_1, fw_cn_2, fw_cn_3, fw_cn_4, fw_cn_5, Nat.reduceAdd, fw_w_id, fw_wl_id, fw_r_k, fw_r_j, fw_r_s, if_true, if_false]
    rw [fg_se]
    exact ih (i + 1) _ _ (by omega) (by omega) (by omega) (by omega) (by omega) (by omega)
theorem fs_sealOf {σ : fw_M} {r s e : Int} {a3 a4 a5 : fw_V} (hr : fw_rw σ r) (hs : 0 ≤ s) (hse : s ≤ e) (he : e ≤ fw_r σ r 1) (h2 : fw_r σ r 1 ≤ fw_ln (r + 1)) (h3 : fw_ln (r + 1) ≤ 300) (hv : ∀ j, 0 ≤ j → j < fw_r σ r 1 → 0 ≤ fw_r σ (r + 1) j ∧ fw_r σ (r + 1) j ≤ 300) : fw_E 46 0 [(2, r), (0, s), (0, e), a3, a4, a5] [] σ = some ((0, 10000 * (fg_se (fw_r σ (r + 1)) s (e - s).toNat (0, 0)).2 + (fg_se (fw_r σ (r + 1)) s (e - s).toNat (0, 0)).1), σ) := by
  rw [fw_b_46_0, fs_sealOf_lp hr he h2 h3 hv s (e - s).toNat s 0 0 hs (by omega) (by omega) (by omega) (by omega) (by omega)]
/-! chutes -/
theorem fw_chw_u {σ : fw_M} {c k j v : Int} (h : fw_chw σ c) (h1 : c ≠ k ∨ j ≠ 1) : fw_chw (fw_u σ k j v) c := by
  refine ⟨h.1, ?_⟩
  rw [fw_r_u, if_neg]
  · exact h.2
  · intro hc; have := hc.2; omega
def fg_dr (σ : fw_M) (c p : Int) : fw_M := fw_u (fw_u (fg_ad σ (c + 1) p) c 4 ((fw_r σ c 4 + p + 1) % 9973)) c 5 ((fw_r σ c 5 + (fw_r σ c 4 + p + 1) % 9973) % 9973)
theorem fs_drop {σ : fw_M} {c p : Int} (hc : fw_chw σ c) (hr : fw_rw σ (c + 1)) (h0 : 0 ≤ fw_r σ (c + 1) 1) (h1 : fw_r σ (c + 1) 1 < fw_ln (c + 1 + 1)) (h2 : fw_ln (c + 1 + 1) ≤ 300) (hp : 0 ≤ p ∧ p < 300) (ha : 0 ≤ fw_r σ c 4 ∧ fw_r σ c 4 < 9973) (hb : 0 ≤ fw_r σ c 5 ∧ fw_r σ c 5 < 9973) : fw_E 13 0 [(2, c), (0, p)] [] σ = some ((5, 0), fg_dr σ c p) := by
  have c1 : fw_chw (fg_ad σ (c + 1) p) c := fw_chw_u (fw_chw_u hc (by omega)) (by omega)
  have c2 : ∀ v, fw_chw (fw_u (fg_ad σ (c + 1) p) c 4 v) c := fun v => fw_chw_u c1 (by omega)
  have e4 : fw_r (fg_ad σ (c + 1) p) c 4 = fw_r σ c 4 := by unfold fg_ad; rw [fw_r_k _ (by omega), fw_r_k _ (by omega)]
  have e5 : fw_r (fg_ad σ (c + 1) p) c 5 = fw_r σ c 5 := by unfold fg_ad; rw [fw_r_k _ (by omega), fw_r_k _ (by omega)]
  unfold fg_dr
  rw [fw_b_13_0 _ _ _ hc hr, fs_rAdd hr h0 h1 h2, fw_bs, fw_cn_5, fw_b_13_8 _ _ _ c1 (by rw [e4]; simp (disch := omega) only [fw_w_id]; omega), e4]
  have e6 : fw_w (fw_w (fw_r σ c 4 + p) + 1) = fw_r σ c 4 + p + 1 := by simp (disch := omega) only [fw_w_id]
  rw [e6, fw_b_13_24 _ _ _ (c2 _) (by rw [fw_r_s, fw_r_j _ (by omega), e5]; simp (disch := omega) only [fw_w_id]; omega), fw_r_s, fw_r_j _ (by omega), e5, fw_w_id (by omega) (by omega), fw_b_13_41]
theorem fs_keptSeal {σ : fw_M} {c : Int} (hc : fw_chw σ c) (ha : 0 ≤ fw_r σ c 4 ∧ fw_r σ c 4 < 9973) (hb : 0 ≤ fw_r σ c 5 ∧ fw_r σ c 5 < 9973) : fw_E 15 0 [(2, c)] [] σ = some ((0, 10000 * fw_r σ c 5 + fw_r σ c 4), σ) := by
  simp (disch := first | omega | assumption | (simp (disch := omega) only [fw_w_id, fw_wl_id, fw_r_k, fw_r_j, fw_r_s]; omega) | (simp only [fw_ptr_1_8, fw_ptr_2_5, fw_ptr_2_6, fw_ptr_2_7, fw_ptr_2_8, fw_ptr_2_9, fw_ptr_8_2, fw_ptr_8_3, fw_ptr_11_2, fw_ptr_11_3, fw_ptr_11_4, fw_ptr_11_5, fw_ptr_11_6, fw_ptr_17_8, fw_ptr_18_2, fw_ptr_18_3, fw_ptr_25_1, fw_ptr_27_2, fw_ptr_28_1, fw_ptr_32_0, fw_ptr_32_1, fw_ptr_32_3, fw_ptr_32_7, fw_ptr_32_8, fw_ptr_32_9, fw_ptr_32_10, fw_ptr_32_15, fw_ptr_32_16, fw_ptr_32_17, fw_ptr_32_18, fw_ptr_32_19, fw_ptr_32_25, fw_ptr_32_29, fw_ptr_3, fw_ptr_4, fw_ptr_5, fw_ptr_6, fw_ptr_7, fw_ptr_9, fw_ptr_10, fw_ptr_13, fw_ptr_15, fw_ptr_16, fw_ptr_19, fw_ptr_20, fw_ptr_21, fw_ptr_22, fw_ptr_23, fw_ptr_24, fw_ptr_26, fw_ptr_29, fw_ptr_30, fw_ptr_31, fw_ptr_33, fw_ptr_34, fw_ptr_35, fw_ptr_36, fw_ptr_37, fw_ptr_38, fw_ptr_39, fw_ptr_40, fw_ptr_41, fw_ptr_42, fw_ptr_43, fw_ptr_44, fw_ptr_45, fw_ptr_46, fw_ptr_47, fw_ptr_48, fw_ptr_49, fw_ptr_50, fw_ptr_51, fw_ptr_52, fw_ptr_53, fw_ptr_54, fw_ptr_55, fw_ptr_12, fw_ptr_x, fw_ptr_hi, fw_ptr_b3, fw_ptr_b1, fw_ptr_b2, fw_ptr_b2_]; assumption)) only [fw_b_15_0, ↓if_pos, ↓if_neg, if_neg, if_pos, fw_bs, fw_cn_0, fw_cn_1, fw_cn_2, fw_cn_3, fw_cn_4, fw_cn_5, Nat.reduceAdd, fw_w_id, fw_wl_id, fw_r_k, fw_r_j, fw_r_s, if_true, if_false]
theorem fs_sealOfContent {σ : fw_M} {c : Int} (hc : fw_chw σ c) (hr : fw_rw σ (c + 1)) (h0 : 0 ≤ fw_r σ (c + 1) 1) (h2 : fw_r σ (c + 1) 1 ≤ fw_ln (c + 1 + 1)) (h3 : fw_ln (c + 1 + 1) ≤ 300) (hv : ∀ j, 0 ≤ j → j < fw_r σ (c + 1) 1 → 0 ≤ fw_r σ (c + 1 + 1) j ∧ fw_r σ (c + 1 + 1) j ≤ 300) : fw_E 16 0 [(2, c)] [] σ = some ((0, 10000 * (fg_se (fw_r σ (c + 1 + 1)) 0 (fw_r σ (c + 1) 1).toNat (0, 0)).2 + (fg_se (fw_r σ (c + 1 + 1)) 0 (fw_r σ (c + 1) 1).toNat (0, 0)).1), σ) := by
  rw [fw_b_16_0 _ _ hc hr, fs_sealOf hr (by omega) h0 (by omega) h2 h3 hv, fw_bs, fw_cn_0, fw_b_16_15, Int.sub_zero]
def fg_cl (σ : fw_M) (c : Int) : fw_M := fw_u (fw_u (fw_u σ (c + 1) 1 0) c 4 0) c 5 0
theorem fs_clear {σ : fw_M} {c : Int} (hc : fw_chw σ c) (hr : fw_rw σ (c + 1)) : fw_E 14 0 [(2, c)] [] σ = some ((5, 0), fg_cl σ c) := by
  have c1 : fw_chw (fw_u σ (c + 1) 1 0) c := fw_chw_u hc (by omega)
  have c2 : fw_chw (fw_u (fw_u σ (c + 1) 1 0) c 4 0) c := fw_chw_u c1 (by omega)
  rw [fw_b_14_0 _ _ hc hr, fw_b_14_8 _ _ c1, fw_b_14_13 _ _ c2, fw_b_14_18]; rfl
