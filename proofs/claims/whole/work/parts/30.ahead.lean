/-! leavingAhead of the reference -/
theorem fs_isIn {m : fw_M} {v lo hi : Int} : fw_E 123 0 [(0, v), (0, lo), (0, hi)] [] m = some ((0, if lo ≤ v ∧ v ≤ hi then 1 else 0), m) := by
  by_cases h1 : v < lo
  · rw [if_neg (by omega)]
    simp (disch := first | omega | assumption | (simp (disch := omega) only [fw_w_id, fw_wl_id, fw_r_k, fw_r_j, fw_r_s]; omega) | (simp only [fw_ptr_1_8, fw_ptr_2_5, fw_ptr_2_6, fw_ptr_2_7, fw_ptr_2_8, fw_ptr_2_9, fw_ptr_8_2, fw_ptr_8_3, fw_ptr_11_2, fw_ptr_11_3, fw_ptr_11_4, fw_ptr_11_5, fw_ptr_11_6, fw_ptr_17_8, fw_ptr_18_2, fw_ptr_18_3, fw_ptr_25_1, fw_ptr_27_2, fw_ptr_28_1, fw_ptr_32_0, fw_ptr_32_1, fw_ptr_32_3, fw_ptr_32_7, fw_ptr_32_8, fw_ptr_32_9, fw_ptr_32_10, fw_ptr_32_15, fw_ptr_32_16, fw_ptr_32_17, fw_ptr_32_18, fw_ptr_32_19, fw_ptr_32_25, fw_ptr_32_29, fw_ptr_3, fw_ptr_4, fw_ptr_5, fw_ptr_6, fw_ptr_7, fw_ptr_9, fw_ptr_10, fw_ptr_13, fw_ptr_15, fw_ptr_16, fw_ptr_19, fw_ptr_20, fw_ptr_21, fw_ptr_22, fw_ptr_23, fw_ptr_24, fw_ptr_26, fw_ptr_29, fw_ptr_30, fw_ptr_31, fw_ptr_33, fw_ptr_34, fw_ptr_35, fw_ptr_36, fw_ptr_37, fw_ptr_38, fw_ptr_39, fw_ptr_40, fw_ptr_41, fw_ptr_42, fw_ptr_43, fw_ptr_44, fw_ptr_45, fw_ptr_46, fw_ptr_47, fw_ptr_48, fw_ptr_49, fw_ptr_50, fw_ptr_51, fw_ptr_52, fw_ptr_53, fw_ptr_54, fw_ptr_55, fw_ptr_12, fw_ptr_x, fw_ptr_hi, fw_ptr_b3, fw_ptr_b1, fw_ptr_b2, fw_ptr_b2_]; assumption)) only [fw_b_123_0, fw_b_123_5, fw_b_123_10, fw_b_123_14, ↓if_pos, ↓if_neg, if_neg, if_pos, fw_bs, fw_cn_0, fw_cn_1, fw_cn_2, fw_cn_3, fw_cn_4, fw_cn_5, Nat.reduceAdd, fw_w_id, fw_wl_id, fw_r_k, fw_r_j, fw_r_s, if_true, if_false]
  · by_cases h2 : hi < v
    · rw [if_neg (by omega)]
      simp (disch := first | omega | assumption | (simp (disch := omega) only [fw_w_id, fw_wl_id, fw_r_k, fw_r_j, fw_r_s]; omega) | (simp only [fw_ptr_1_8, fw_ptr_2_5, fw_ptr_2_6, fw_ptr_2_7, fw_ptr_2_8, fw_ptr_2_9, fw_ptr_8_2, fw_ptr_8_3, fw_ptr_11_2, fw_ptr_11_3, fw_ptr_11_4, fw_ptr_11_5, fw_ptr_11_6, fw_ptr_17_8, fw_ptr_18_2, fw_ptr_18_3, fw_ptr_25_1, fw_ptr_27_2, fw_ptr_28_1, fw_ptr_32_0, fw_ptr_32_1, fw_ptr_32_3, fw_ptr_32_7, fw_ptr_32_8, fw_ptr_32_9, fw_ptr_32_10, fw_ptr_32_15, fw_ptr_32_16, fw_ptr_32_17, fw_ptr_32_18, fw_ptr_32_19, fw_ptr_32_25, fw_ptr_32_29, fw_ptr_3, fw_ptr_4, fw_ptr_5, fw_ptr_6, fw_ptr_7, fw_ptr_9, fw_ptr_10, fw_ptr_13, fw_ptr_15, fw_ptr_16, fw_ptr_19, fw_ptr_20, fw_ptr_21, fw_ptr_22, fw_ptr_23, fw_ptr_24, fw_ptr_26, fw_ptr_29, fw_ptr_30, fw_ptr_31, fw_ptr_33, fw_ptr_34, fw_ptr_35, fw_ptr_36, fw_ptr_37, fw_ptr_38, fw_ptr_39, fw_ptr_40, fw_ptr_41, fw_ptr_42, fw_ptr_43, fw_ptr_44, fw_ptr_45, fw_ptr_46, fw_ptr_47, fw_ptr_48, fw_ptr_49, fw_ptr_50, fw_ptr_51, fw_ptr_52, fw_ptr_53, fw_ptr_54, fw_ptr_55, fw_ptr_12, fw_ptr_x, fw_ptr_hi, fw_ptr_b3, fw_ptr_b1, fw_ptr_b2, fw_ptr_b2_]; assumption)) only [fw_b_123_0, fw_b_123_5, fw_b_123_10, fw_b_123_14, ↓if_pos, ↓if_neg, if_neg, if_pos, fw_bs, fw_cn_0, fw_cn_1, fw_cn_2, fw_cn_3, fw_cn_4, fw_cn_5, Nat.reduceAdd, fw_w_id, fw_wl_id, fw_r_k, fw_r_j, fw_r_s, if_true, if_false]
    · rw [if_pos (by omega)]
      simp (disch := first | omega | assumption | (simp (disch := omega) only [fw_w_id, fw_wl_id, fw_r_k, fw_r_j, fw_r_s]; omega) | (simp only [fw_ptr_1_8, fw_ptr_2_5, fw_ptr_2_6, fw_ptr_2_7, fw_ptr_2_8, fw_ptr_2_9, fw_ptr_8_2, fw_ptr_8_3, fw_ptr_11_2, fw_ptr_11_3, fw_ptr_11_4, fw_ptr_11_5, fw_ptr_11_6, fw_ptr_17_8, fw_ptr_18_2, fw_ptr_18_3, fw_ptr_25_1, fw_ptr_27_2, fw_ptr_28_1, fw_ptr_32_0, fw_ptr_32_1, fw_ptr_32_3, fw_ptr_32_7, fw_ptr_32_8, fw_ptr_32_9, fw_ptr_32_10, fw_ptr_32_15, fw_ptr_32_16, fw_ptr_32_17, fw_ptr_32_18, fw_ptr_32_19, fw_ptr_32_25, fw_ptr_32_29, fw_ptr_3, fw_ptr_4, fw_ptr_5, fw_ptr_6, fw_ptr_7, fw_ptr_9, fw_ptr_10, fw_ptr_13, fw_ptr_15, fw_ptr_16, fw_ptr_19, fw_ptr_20, fw_ptr_21, fw_ptr_22, fw_ptr_23, fw_ptr_24, fw_ptr_26, fw_ptr_29, fw_ptr_30, fw_ptr_31, fw_ptr_33, fw_ptr_34, fw_ptr_35, fw_ptr_36, fw_ptr_37, fw_ptr_38, fw_ptr_39, fw_ptr_40, fw_ptr_41, fw_ptr_42, fw_ptr_43, fw_ptr_44, fw_ptr_45, fw_ptr_46, fw_ptr_47, fw_ptr_48, fw_ptr_49, fw_ptr_50, fw_ptr_51, fw_ptr_52, fw_ptr_53, fw_ptr_54, fw_ptr_55, fw_ptr_12, fw_ptr_x, fw_ptr_hi, fw_ptr_b3, fw_ptr_b1, fw_ptr_b2, fw_ptr_b2_]; assumption)) only [fw_b_123_0, fw_b_123_5, fw_b_123_10, fw_b_123_14, ↓if_pos, ↓if_neg, if_neg, if_pos, fw_bs, fw_cn_0, fw_cn_1, fw_cn_2, fw_cn_3, fw_cn_4, fw_cn_5, Nat.reduceAdd, fw_w_id, fw_wl_id, fw_r_k, fw_r_j, fw_r_s, if_true, if_false]
theorem fs_goesOn_0 {m : fw_M} : fw_E 124 0 [(2, 32), (0, 0)] [] m = some ((0, 1), fw_u m 32 0 0) := by
  simp (disch := first | omega | assumption | (simp (disch := omega) only [fw_w_id, fw_wl_id, fw_r_k, fw_r_j, fw_r_s]; omega) | (simp only [fw_ptr_1_8, fw_ptr_2_5, fw_ptr_2_6, fw_ptr_2_7, fw_ptr_2_8, fw_ptr_2_9, fw_ptr_8_2, fw_ptr_8_3, fw_ptr_11_2, fw_ptr_11_3, fw_ptr_11_4, fw_ptr_11_5, fw_ptr_11_6, fw_ptr_17_8, fw_ptr_18_2, fw_ptr_18_3, fw_ptr_25_1, fw_ptr_27_2, fw_ptr_28_1, fw_ptr_32_0, fw_ptr_32_1, fw_ptr_32_3, fw_ptr_32_7, fw_ptr_32_8, fw_ptr_32_9, fw_ptr_32_10, fw_ptr_32_15, fw_ptr_32_16, fw_ptr_32_17, fw_ptr_32_18, fw_ptr_32_19, fw_ptr_32_25, fw_ptr_32_29, fw_ptr_3, fw_ptr_4, fw_ptr_5, fw_ptr_6, fw_ptr_7, fw_ptr_9, fw_ptr_10, fw_ptr_13, fw_ptr_15, fw_ptr_16, fw_ptr_19, fw_ptr_20, fw_ptr_21, fw_ptr_22, fw_ptr_23, fw_ptr_24, fw_ptr_26, fw_ptr_29, fw_ptr_30, fw_ptr_31, fw_ptr_33, fw_ptr_34, fw_ptr_35, fw_ptr_36, fw_ptr_37, fw_ptr_38, fw_ptr_39, fw_ptr_40, fw_ptr_41, fw_ptr_42, fw_ptr_43, fw_ptr_44, fw_ptr_45, fw_ptr_46, fw_ptr_47, fw_ptr_48, fw_ptr_49, fw_ptr_50, fw_ptr_51, fw_ptr_52, fw_ptr_53, fw_ptr_54, fw_ptr_55, fw_ptr_12, fw_ptr_x, fw_ptr_hi, fw_ptr_b3, fw_ptr_b1, fw_ptr_b2, fw_ptr_b2_]; assumption)) only [fw_b_124_0, fw_b_124_5, fw_b_124_13, fw_b_124_9, ↓if_pos, ↓if_neg, if_neg, if_pos, fw_bs, fw_cn_0, fw_cn_1, fw_cn_2, fw_cn_3, fw_cn_4, fw_cn_5, Nat.reduceAdd, fw_w_id, fw_wl_id, fw_r_k, fw_r_j, fw_r_s, if_true, if_false]
theorem fs_goesOn_n {m : fw_M} {v : Int} (h : v ≠ 0) : fw_E 124 0 [(2, 32), (0, v)] [] m = some ((0, 0), fw_u m 32 0 v) := by
  simp (disch := first | omega | assumption | (simp (disch := omega) only [fw_w_id, fw_wl_id, fw_r_k, fw_r_j, fw_r_s]; omega) | (simp only [fw_ptr_1_8, fw_ptr_2_5, fw_ptr_2_6, fw_ptr_2_7, fw_ptr_2_8, fw_ptr_2_9, fw_ptr_8_2, fw_ptr_8_3, fw_ptr_11_2, fw_ptr_11_3, fw_ptr_11_4, fw_ptr_11_5, fw_ptr_11_6, fw_ptr_17_8, fw_ptr_18_2, fw_ptr_18_3, fw_ptr_25_1, fw_ptr_27_2, fw_ptr_28_1, fw_ptr_32_0, fw_ptr_32_1, fw_ptr_32_3, fw_ptr_32_7, fw_ptr_32_8, fw_ptr_32_9, fw_ptr_32_10, fw_ptr_32_15, fw_ptr_32_16, fw_ptr_32_17, fw_ptr_32_18, fw_ptr_32_19, fw_ptr_32_25, fw_ptr_32_29, fw_ptr_3, fw_ptr_4, fw_ptr_5, fw_ptr_6, fw_ptr_7, fw_ptr_9, fw_ptr_10, fw_ptr_13, fw_ptr_15, fw_ptr_16, fw_ptr_19, fw_ptr_20, fw_ptr_21, fw_ptr_22, fw_ptr_23, fw_ptr_24, fw_ptr_26, fw_ptr_29, fw_ptr_30, fw_ptr_31, fw_ptr_33, fw_ptr_34, fw_ptr_35, fw_ptr_36, fw_ptr_37, fw_ptr_38, fw_ptr_39, fw_ptr_40, fw_ptr_41, fw_ptr_42, fw_ptr_43, fw_ptr_44, fw_ptr_45, fw_ptr_46, fw_ptr_47, fw_ptr_48, fw_ptr_49, fw_ptr_50, fw_ptr_51, fw_ptr_52, fw_ptr_53, fw_ptr_54, fw_ptr_55, fw_ptr_12, fw_ptr_x, fw_ptr_hi, fw_ptr_b3, fw_ptr_b1, fw_ptr_b2, fw_ptr_b2_]; assumption)) only [fw_b_124_0, fw_b_124_5, fw_b_124_13, fw_b_124_9, ↓if_pos, ↓if_neg, if_neg, if_pos, fw_bs, fw_cn_0, fw_cn_1, fw_cn_2, fw_cn_3, fw_cn_4, fw_cn_5, Nat.reduceAdd, fw_w_id, fw_wl_id, fw_r_k, fw_r_j, fw_r_s, if_true, if_false]
/-- one cell's slots out of another's -/
def fg_cp (m : fw_M) (d s lo hi : Int) : fw_M := fun a b => if a = d ∧ lo ≤ b ∧ b < hi then fw_r m s b else m a b
theorem fg_cp_r (m : fw_M) (d s lo hi a b : Int) : fw_r (fg_cp m d s lo hi) a b = if a = d ∧ lo ≤ b ∧ b < hi then fw_r m s b else fw_r m a b := rfl
theorem fg_cp_o (m : fw_M) (d s lo hi : Int) {a b : Int} (h : a ≠ d) : fw_r (fg_cp m d s lo hi) a b = fw_r m a b := by rw [fg_cp_r, if_neg (fun hc => h hc.1)]
theorem fg_cp_0 (m : fw_M) (d s lo hi : Int) (h : hi ≤ lo) : fg_cp m d s lo hi = m := by
  funext a b; unfold fg_cp; rw [if_neg (by omega)]
theorem fg_cp_s (m : fw_M) {d s lo hi : Int} (h : lo < hi) (hd : s ≠ d) : fg_cp (fw_u m d lo (fw_r m s lo)) d s (lo + 1) hi = fg_cp m d s lo hi := by
  funext a b
  show (if a = d ∧ lo + 1 ≤ b ∧ b < hi then fw_r (fw_u m d lo (fw_r m s lo)) s b else fw_r (fw_u m d lo (fw_r m s lo)) a b) = (if a = d ∧ lo ≤ b ∧ b < hi then fw_r m s b else fw_r m a b)
  rw [fw_r_k _ hd, fw_r_u]
  by_cases h1 : a = d ∧ lo + 1 ≤ b ∧ b < hi
  · rw [if_pos h1, if_pos (by omega)]
  · rw [if_neg h1]
    by_cases h2 : a = d ∧ b = lo
    · rw [if_pos h2, if_pos (by omega), h2.2]
    · rw [if_neg h2, if_neg (by omega)]
theorem fg_cp_ptr {m : fw_M} {d s lo hi : Int} (h : fw_ptr m) (hd : ∀ q ∈ fw_psT, q.1 ≠ d) : fw_ptr (fg_cp m d s lo hi) := fg_ptr_of h (fun q hq => fg_cp_o m d s lo hi (hd q hq))
theorem fs_cp1 {x1 x2 : Int} {a4 : fw_V} : ∀ (k : Nat) (i : Int) (m : fw_M), fw_ptr m → 0 ≤ i → i + k = fw_r m 32 1 → i + k ≤ 20 → fw_E 147 32 [(2, 32), (0, x1), (0, x2), (0, i), a4] [] m = fw_E 147 60 [(2, 32), (0, x1), (0, x2), (0, 0), a4] [] (fg_cp m 49 33 i (i + k)) := by
  intro k
  induction k with
  | zero =>
    intro i m hp h0 h1 h2
    rw [fg_cp_0 _ _ _ _ _ (by omega)]
    simp (disch := first | omega | assumption | (simp (disch := omega) only [fw_w_id, fw_wl_id, fw_r_k, fw_r_j, fw_r_s]; omega) | (simp only [fw_ptr_1_8, fw_ptr_2_5, fw_ptr_2_6, fw_ptr_2_7, fw_ptr_2_8, fw_ptr_2_9, fw_ptr_8_2, fw_ptr_8_3, fw_ptr_11_2, fw_ptr_11_3, fw_ptr_11_4, fw_ptr_11_5, fw_ptr_11_6, fw_ptr_17_8, fw_ptr_18_2, fw_ptr_18_3, fw_ptr_25_1, fw_ptr_27_2, fw_ptr_28_1, fw_ptr_32_0, fw_ptr_32_1, fw_ptr_32_3, fw_ptr_32_7, fw_ptr_32_8, fw_ptr_32_9, fw_ptr_32_10, fw_ptr_32_15, fw_ptr_32_16, fw_ptr_32_17, fw_ptr_32_18, fw_ptr_32_19, fw_ptr_32_25, fw_ptr_32_29, fw_ptr_3, fw_ptr_4, fw_ptr_5, fw_ptr_6, fw_ptr_7, fw_ptr_9, fw_ptr_10, fw_ptr_13, fw_ptr_15, fw_ptr_16, fw_ptr_19, fw_ptr_20, fw_ptr_21, fw_ptr_22, fw_ptr_23, fw_ptr_24, fw_ptr_26, fw_ptr_29, fw_ptr_30, fw_ptr_31, fw_ptr_33, fw_ptr_34, fw_ptr_35, fw_ptr_36, fw_ptr_37, fw_ptr_38, fw_ptr_39, fw_ptr_40, fw_ptr_41, fw_ptr_42, fw_ptr_43, fw_ptr_44, fw_ptr_45, fw_ptr_46, fw_ptr_47, fw_ptr_48, fw_ptr_49, fw_ptr_50, fw_ptr_51, fw_ptr_52, fw_ptr_53, fw_ptr_54, fw_ptr_55, fw_ptr_12, fw_ptr_x, fw_ptr_hi, fw_ptr_b3, fw_ptr_b1, fw_ptr_b2, fw_ptr_b2_]; assumption)) only [fw_b_147_32, fw_b_147_58, ↓if_pos, ↓if_neg, if_neg, if_pos, fw_bs, fw_cn_0, fw_cn_1, fw_cn_2, fw_cn_3, fw_cn_4, fw_cn_5, Nat.reduceAdd, fw_w_id, fw_wl_id, fw_r_k, fw_r_j, fw_r_s, if_true, if_false]
  | succ k ih =>
    intro i m hp h0 h1 h2
    have e := ih (i + 1) (fw_u m 49 i (fw_r m 33 i)) (by rw [fw_ptr_49]; exact hp) (by omega) (by rw [fw_r_k _ (by decide)]; omega) (by omega)
    have ek : i + 1 + (k : Int) = i + ((k + 1 : Nat) : Int) := by omega
    rw [ek, fg_cp_s m (by omega) (by decide)] at e
    rw [← e, fw_b_147_32]
    simp (disch := first | omega | assumption | (simp (disch := omega) only [fw_w_id, fw_wl_id, fw_r_k, fw_r_j, fw_r_s]; omega) | (simp only [fw_ptr_1_8, fw_ptr_2_5, fw_ptr_2_6, fw_ptr_2_7, fw_ptr_2_8, fw_ptr_2_9, fw_ptr_8_2, fw_ptr_8_3, fw_ptr_11_2, fw_ptr_11_3, fw_ptr_11_4, fw_ptr_11_5, fw_ptr_11_6, fw_ptr_17_8, fw_ptr_18_2, fw_ptr_18_3, fw_ptr_25_1, fw_ptr_27_2, fw_ptr_28_1, fw_ptr_32_0, fw_ptr_32_1, fw_ptr_32_3, fw_ptr_32_7, fw_ptr_32_8, fw_ptr_32_9, fw_ptr_32_10, fw_ptr_32_15, fw_ptr_32_16, fw_ptr_32_17, fw_ptr_32_18, fw_ptr_32_19, fw_ptr_32_25, fw_ptr_32_29, fw_ptr_3, fw_ptr_4, fw_ptr_5, fw_ptr_6, fw_ptr_7, fw_ptr_9, fw_ptr_10, fw_ptr_13, fw_ptr_15, fw_ptr_16, fw_ptr_19, fw_ptr_20, fw_ptr_21, fw_ptr_22, fw_ptr_23, fw_ptr_24, fw_ptr_26, fw_ptr_29, fw_ptr_30, fw_ptr_31, fw_ptr_33, fw_ptr_34, fw_ptr_35, fw_ptr_36, fw_ptr_37, fw_ptr_38, fw_ptr_39, fw_ptr_40, fw_ptr_41, fw_ptr_42, fw_ptr_43, fw_ptr_44, fw_ptr_45, fw_ptr_46, fw_ptr_47, fw_ptr_48, fw_ptr_49, fw_ptr_50, fw_ptr_51, fw_ptr_52, fw_ptr_53, fw_ptr_54, fw_ptr_55, fw_ptr_12, fw_ptr_x, fw_ptr_hi, fw_ptr_b3, fw_ptr_b1, fw_ptr_b2, fw_ptr_b2_]; assumption)) only [fw_b_147_40, fw_b_147_52, ↓if_pos, ↓if_neg, if_neg, if_pos, fw_bs, fw_cn_0, fw_cn_1, fw_cn_2, fw_cn_3, fw_cn_4, fw_cn_5, Nat.reduceAdd, fw_w_id, fw_wl_id, fw_r_k, fw_r_j, fw_r_s, if_true, if_false]
theorem fs_cp2 {x1 x2 : Int} {a4 : fw_V} : ∀ (k : Nat) (i : Int) (m : fw_M), fw_ptr m → 0 ≤ i → i + k = fw_r m 32 10 → i + k ≤ 300 → fw_E 147 60 [(2, 32), (0, x1), (0, x2), (0, i), a4] [] m = fw_E 147 88 [(2, 32), (0, x1), (0, x2), (0, 0), a4] [] (fg_cp m 50 40 i (i + k)) := by
  intro k
  induction k with
  | zero =>
    intro i m hp h0 h1 h2
    rw [fg_cp_0 _ _ _ _ _ (by omega)]
    simp (disch := first | omega | assumption | (simp (disch := omega) only [fw_w_id, fw_wl_id, fw_r_k, fw_r_j, fw_r_s]; omega) | (simp only [fw_ptr_1_8, fw_ptr_2_5, fw_ptr_2_6, fw_ptr_2_7, fw_ptr_2_8, fw_ptr_2_9, fw_ptr_8_2, fw_ptr_8_3, fw_ptr_11_2, fw_ptr_11_3, fw_ptr_11_4, fw_ptr_11_5, fw_ptr_11_6, fw_ptr_17_8, fw_ptr_18_2, fw_ptr_18_3, fw_ptr_25_1, fw_ptr_27_2, fw_ptr_28_1, fw_ptr_32_0, fw_ptr_32_1, fw_ptr_32_3, fw_ptr_32_7, fw_ptr_32_8, fw_ptr_32_9, fw_ptr_32_10, fw_ptr_32_15, fw_ptr_32_16, fw_ptr_32_17, fw_ptr_32_18, fw_ptr_32_19, fw_ptr_32_25, fw_ptr_32_29, fw_ptr_3, fw_ptr_4, fw_ptr_5, fw_ptr_6, fw_ptr_7, fw_ptr_9, fw_ptr_10, fw_ptr_13, fw_ptr_15, fw_ptr_16, fw_ptr_19, fw_ptr_20, fw_ptr_21, fw_ptr_22, fw_ptr_23, fw_ptr_24, fw_ptr_26, fw_ptr_29, fw_ptr_30, fw_ptr_31, fw_ptr_33, fw_ptr_34, fw_ptr_35, fw_ptr_36, fw_ptr_37, fw_ptr_38, fw_ptr_39, fw_ptr_40, fw_ptr_41, fw_ptr_42, fw_ptr_43, fw_ptr_44, fw_ptr_45, fw_ptr_46, fw_ptr_47, fw_ptr_48, fw_ptr_49, fw_ptr_50, fw_ptr_51, fw_ptr_52, fw_ptr_53, fw_ptr_54, fw_ptr_55, fw_ptr_12, fw_ptr_x, fw_ptr_hi, fw_ptr_b3, fw_ptr_b1, fw_ptr_b2, fw_ptr_b2_]; assumption)) only [fw_b_147_60, fw_b_147_86, ↓if_pos, ↓if_neg, if_neg, if_pos, fw_bs, fw_cn_0, fw_cn_1, fw_cn_2, fw_cn_3, fw_cn_4, fw_cn_5, Nat.reduceAdd, fw_w_id, fw_wl_id, fw_r_k, fw_r_j, fw_r_s, if_true, if_false]
  | succ k ih =>
    intro i m hp h0 h1 h2
    have e := ih (i + 1) (fw_u m 50 i (fw_r m 40 i)) (by rw [fw_ptr_50]; exact hp) (by omega) (by rw [fw_r_k _ (by decide)]; omega) (by omega)
    have ek : i + 1 + (k : Int) = i + ((k + 1 : Nat) : Int) := by omega
    rw [ek, fg_cp_s m (by omega) (by decide)] at e
    rw [← e, fw_b_147_60]
    simp (disch := first | omega | assumption | (simp (disch := omega) only [fw_w_id, fw_wl_id, fw_r_k, fw_r_j, fw_r_s]; omega) | (simp only [fw_ptr_1_8, fw_ptr_2_5, fw_ptr_2_6, fw_ptr_2_7, fw_ptr_2_8, fw_ptr_2_9, fw_ptr_8_2, fw_ptr_8_3, fw_ptr_11_2, fw_ptr_11_3, fw_ptr_11_4, fw_ptr_11_5, fw_ptr_11_6, fw_ptr_17_8, fw_ptr_18_2, fw_ptr_18_3, fw_ptr_25_1, fw_ptr_27_2, fw_ptr_28_1, fw_ptr_32_0, fw_ptr_32_1, fw_ptr_32_3, fw_ptr_32_7, fw_ptr_32_8, fw_ptr_32_9, fw_ptr_32_10, fw_ptr_32_15, fw_ptr_32_16, fw_ptr_32_17, fw_ptr_32_18, fw_ptr_32_19, fw_ptr_32_25, fw_ptr_32_29, fw_ptr_3, fw_ptr_4, fw_ptr_5, fw_ptr_6, fw_ptr_7, fw_ptr_9, fw_ptr_10, fw_ptr_13, fw_ptr_15, fw_ptr_16, fw_ptr_19, fw_ptr_20, fw_ptr_21, fw_ptr_22, fw_ptr_23, fw_ptr_24, fw_ptr_26, fw_ptr_29, fw_ptr_30, fw_ptr_31, fw_ptr_33, fw_ptr_34, fw_ptr_35, fw_ptr_36, fw_ptr_37, fw_ptr_38, fw_ptr_39, fw_ptr_40, fw_ptr_41, fw_ptr_42, fw_ptr_43, fw_ptr_44, fw_ptr_45, fw_ptr_46, fw_ptr_47, fw_ptr_48, fw_ptr_49, fw_ptr_50, fw_ptr_51, fw_ptr_52, fw_ptr_53, fw_ptr_54, fw_ptr_55, fw_ptr_12, fw_ptr_x, fw_ptr_hi, fw_ptr_b3, fw_ptr_b1, fw_ptr_b2, fw_ptr_b2_]; assumption)) only [fw_b_147_68, fw_b_147_80, ↓if_pos, ↓if_neg, if_neg, if_pos, fw_bs, fw_cn_0, fw_cn_1, fw_cn_2, fw_cn_3, fw_cn_4, fw_cn_5, Nat.reduceAdd, fw_w_id, fw_wl_id, fw_r_k, fw_r_j, fw_r_s, if_true, if_false]
theorem fs_cp3 {x1 x2 : Int} {a4 : fw_V} : ∀ (k : Nat) (i : Int) (m : fw_M), fw_ptr m → 0 ≤ i → i + k = fw_r m 32 3 → i + k ≤ 6 → fw_E 147 88 [(2, 32), (0, x1), (0, x2), (0, i), a4] [] m = fw_E 147 119 [(2, 32), (0, x1), (0, x2), (0, 0), (0, 0)] [] (fg_cp m 51 42 i (i + k)) := by
  intro k
  induction k with
  | zero =>
    intro i m hp h0 h1 h2
    rw [fg_cp_0 _ _ _ _ _ (by omega)]
    simp (disch := first | omega | assumption | (simp (disch := omega) only [fw_w_id, fw_wl_id, fw_r_k, fw_r_j, fw_r_s]; omega) | (simp only [fw_ptr_1_8, fw_ptr_2_5, fw_ptr_2_6, fw_ptr_2_7, fw_ptr_2_8, fw_ptr_2_9, fw_ptr_8_2, fw_ptr_8_3, fw_ptr_11_2, fw_ptr_11_3, fw_ptr_11_4, fw_ptr_11_5, fw_ptr_11_6, fw_ptr_17_8, fw_ptr_18_2, fw_ptr_18_3, fw_ptr_25_1, fw_ptr_27_2, fw_ptr_28_1, fw_ptr_32_0, fw_ptr_32_1, fw_ptr_32_3, fw_ptr_32_7, fw_ptr_32_8, fw_ptr_32_9, fw_ptr_32_10, fw_ptr_32_15, fw_ptr_32_16, fw_ptr_32_17, fw_ptr_32_18, fw_ptr_32_19, fw_ptr_32_25, fw_ptr_32_29, fw_ptr_3, fw_ptr_4, fw_ptr_5, fw_ptr_6, fw_ptr_7, fw_ptr_9, fw_ptr_10, fw_ptr_13, fw_ptr_15, fw_ptr_16, fw_ptr_19, fw_ptr_20, fw_ptr_21, fw_ptr_22, fw_ptr_23, fw_ptr_24, fw_ptr_26, fw_ptr_29, fw_ptr_30, fw_ptr_31, fw_ptr_33, fw_ptr_34, fw_ptr_35, fw_ptr_36, fw_ptr_37, fw_ptr_38, fw_ptr_39, fw_ptr_40, fw_ptr_41, fw_ptr_42, fw_ptr_43, fw_ptr_44, fw_ptr_45, fw_ptr_46, fw_ptr_47, fw_ptr_48, fw_ptr_49, fw_ptr_50, fw_ptr_51, fw_ptr_52, fw_ptr_53, fw_ptr_54, fw_ptr_55, fw_ptr_12, fw_ptr_x, fw_ptr_hi, fw_ptr_b3, fw_ptr_b1, fw_ptr_b2, fw_ptr_b2_]; assumption)) only [fw_b_147_88, fw_b_147_114, ↓if_pos, ↓if_neg, if_neg, if_pos, fw_bs, fw_cn_0, fw_cn_1, fw_cn_2, fw_cn_3, fw_cn_4, fw_cn_5, Nat.reduceAdd, fw_w_id, fw_wl_id, fw_r_k, fw_r_j, fw_r_s, if_true, if_false]
  | succ k ih =>
    intro i m hp h0 h1 h2
    have e := ih (i + 1) (fw_u m 51 i (fw_r m 42 i)) (by rw [fw_ptr_51]; exact hp) (by omega) (by rw [fw_r_k _ (by decide)]; omega) (by omega)
    have ek : i + 1 + (k : Int) = i + ((k + 1 : Nat) : Int) := by omega
    rw [ek, fg_cp_s m (by omega) (by decide)] at e
    rw [← e, fw_b_147_88]
    simp (disch := first | omega | assumption | (simp (disch := omega) only [fw_w_id, fw_wl_id, fw_r_k, fw_r_j, fw_r_s]; omega) | (simp only [fw_ptr_1_8, fw_ptr_2_5, fw_ptr_2_6, fw_ptr_2_7, fw_ptr_2_8, fw_ptr_2_9, fw_ptr_8_2, fw_ptr_8_3, fw_ptr_11_2, fw_ptr_11_3, fw_ptr_11_4, fw_ptr_11_5, fw_ptr_11_6, fw_ptr_17_8, fw_ptr_18_2, fw_ptr_18_3, fw_ptr_25_1, fw_ptr_27_2, fw_ptr_28_1, fw_ptr_32_0, fw_ptr_32_1, fw_ptr_32_3, fw_ptr_32_7, fw_ptr_32_8, fw_ptr_32_9, fw_ptr_32_10, fw_ptr_32_15, fw_ptr_32_16, fw_ptr_32_17, fw_ptr_32_18, fw_ptr_32_19, fw_ptr_32_25, fw_ptr_32_29, fw_ptr_3, fw_ptr_4, fw_ptr_5, fw_ptr_6, fw_ptr_7, fw_ptr_9, fw_ptr_10, fw_ptr_13, fw_ptr_15, fw_ptr_16, fw_ptr_19, fw_ptr_20, fw_ptr_21, fw_ptr_22, fw_ptr_23, fw_ptr_24, fw_ptr_26, fw_ptr_29, fw_ptr_30, fw_ptr_31, fw_ptr_33, fw_ptr_34, fw_ptr_35, fw_ptr_36, fw_ptr_37, fw_ptr_38, fw_ptr_39, fw_ptr_40, fw_ptr_41, fw_ptr_42, fw_ptr_43, fw_ptr_44, fw_ptr_45, fw_ptr_46, fw_ptr_47, fw_ptr_48, fw_ptr_49, fw_ptr_50, fw_ptr_51, fw_ptr_52, fw_ptr_53, fw_ptr_54, fw_ptr_55, fw_ptr_12, fw_ptr_x, fw_ptr_hi, fw_ptr_b3, fw_ptr_b1, fw_ptr_b2, fw_ptr_b2_]; assumption)) only [fw_b_147_96, fw_b_147_108, ↓if_pos, ↓if_neg, if_neg, if_pos, fw_bs, fw_cn_0, fw_cn_1, fw_cn_2, fw_cn_3, fw_cn_4, fw_cn_5, Nat.reduceAdd, fw_w_id, fw_wl_id, fw_r_k, fw_r_j, fw_r_s, if_true, if_false]
theorem fs_cp4 {x1 x2 x3 : Int} : ∀ (k : Nat) (i : Int) (m : fw_M), fw_ptr m → 0 ≤ i → i + k = fw_r m 32 1 → i + k ≤ 20 → fw_E 147 146 [(2, 32), (0, x1), (0, x2), (0, x3), (0, i)] [] m = fw_E 147 178 [(2, 32), (0, x1), (0, x2), (0, x3), (0, 0)] [] (fg_cp m 33 49 i (i + k)) := by
  intro k
  induction k with
  | zero =>
    intro i m hp h0 h1 h2
    rw [fg_cp_0 _ _ _ _ _ (by omega)]
    simp (disch := first | omega | assumption | (simp (disch := omega) only [fw_w_id, fw_wl_id, fw_r_k, fw_r_j, fw_r_s]; omega) | (simp only [fw_ptr_1_8, fw_ptr_2_5, fw_ptr_2_6, fw_ptr_2_7, fw_ptr_2_8, fw_ptr_2_9, fw_ptr_8_2, fw_ptr_8_3, fw_ptr_11_2, fw_ptr_11_3, fw_ptr_11_4, fw_ptr_11_5, fw_ptr_11_6, fw_ptr_17_8, fw_ptr_18_2, fw_ptr_18_3, fw_ptr_25_1, fw_ptr_27_2, fw_ptr_28_1, fw_ptr_32_0, fw_ptr_32_1, fw_ptr_32_3, fw_ptr_32_7, fw_ptr_32_8, fw_ptr_32_9, fw_ptr_32_10, fw_ptr_32_15, fw_ptr_32_16, fw_ptr_32_17, fw_ptr_32_18, fw_ptr_32_19, fw_ptr_32_25, fw_ptr_32_29, fw_ptr_3, fw_ptr_4, fw_ptr_5, fw_ptr_6, fw_ptr_7, fw_ptr_9, fw_ptr_10, fw_ptr_13, fw_ptr_15, fw_ptr_16, fw_ptr_19, fw_ptr_20, fw_ptr_21, fw_ptr_22, fw_ptr_23, fw_ptr_24, fw_ptr_26, fw_ptr_29, fw_ptr_30, fw_ptr_31, fw_ptr_33, fw_ptr_34, fw_ptr_35, fw_ptr_36, fw_ptr_37, fw_ptr_38, fw_ptr_39, fw_ptr_40, fw_ptr_41, fw_ptr_42, fw_ptr_43, fw_ptr_44, fw_ptr_45, fw_ptr_46, fw_ptr_47, fw_ptr_48, fw_ptr_49, fw_ptr_50, fw_ptr_51, fw_ptr_52, fw_ptr_53, fw_ptr_54, fw_ptr_55, fw_ptr_12, fw_ptr_x, fw_ptr_hi, fw_ptr_b3, fw_ptr_b1, fw_ptr_b2, fw_ptr_b2_]; assumption)) only [fw_b_147_146, fw_b_147_175, ↓if_pos, ↓if_neg, if_neg, if_pos, fw_bs, fw_cn_0, fw_cn_1, fw_cn_2, fw_cn_3, fw_cn_4, fw_cn_5, Nat.reduceAdd, fw_w_id, fw_wl_id, fw_r_k, fw_r_j, fw_r_s, if_true, if_false]
  | succ k ih =>
    intro i m hp h0 h1 h2
    have e := ih (i + 1) (fw_u m 33 i (fw_r m 49 i)) (by rw [fw_ptr_33]; exact hp) (by omega) (by rw [fw_r_k _ (by decide)]; omega) (by omega)
    have ek : i + 1 + (k : Int) = i + ((k + 1 : Nat) : Int) := by omega
    rw [ek, fg_cp_s m (by omega) (by decide)] at e
    rw [← e, fw_b_147_146]
    simp (disch := first | omega | assumption | (simp (disch := omega) only [fw_w_id, fw_wl_id, fw_r_k, fw_r_j, fw_r_s]; omega) | (simp only [fw_ptr_1_8, fw_ptr_2_5, fw_ptr_2_6, fw_ptr_2_7, fw_ptr_2_8, fw_ptr_2_9, fw_ptr_8_2, fw_ptr_8_3, fw_ptr_11_2, fw_ptr_11_3, fw_ptr_11_4, fw_ptr_11_5, fw_ptr_11_6, fw_ptr_17_8, fw_ptr_18_2, fw_ptr_18_3, fw_ptr_25_1, fw_ptr_27_2, fw_ptr_28_1, fw_ptr_32_0, fw_ptr_32_1, fw_ptr_32_3, fw_ptr_32_7, fw_ptr_32_8, fw_ptr_32_9, fw_ptr_32_10, fw_ptr_32_15, fw_ptr_32_16, fw_ptr_32_17, fw_ptr_32_18, fw_ptr_32_19, fw_ptr_32_25, fw_ptr_32_29, fw_ptr_3, fw_ptr_4, fw_ptr_5, fw_ptr_6, fw_ptr_7, fw_ptr_9, fw_ptr_10, fw_ptr_13, fw_ptr_15, fw_ptr_16, fw_ptr_19, fw_ptr_20, fw_ptr_21, fw_ptr_22, fw_ptr_23, fw_ptr_24, fw_ptr_26, fw_ptr_29, fw_ptr_30, fw_ptr_31, fw_ptr_33, fw_ptr_34, fw_ptr_35, fw_ptr_36, fw_ptr_37, fw_ptr_38, fw_ptr_39, fw_ptr_40, fw_ptr_41, fw_ptr_42, fw_ptr_43, fw_ptr_44, fw_ptr_45, fw_ptr_46, fw_ptr_47, fw_ptr_48, fw_ptr_49, fw_ptr_50, fw_ptr_51, fw_ptr_52, fw_ptr_53, fw_ptr_54, fw_ptr_55, fw_ptr_12, fw_ptr_x, fw_ptr_hi, fw_ptr_b3, fw_ptr_b1, fw_ptr_b2, fw_ptr_b2_]; assumption)) only [fw_b_147_155, fw_b_147_169, ↓if_pos, ↓if_neg, if_neg, if_pos, fw_bs, fw_cn_0, fw_cn_1, fw_cn_2, fw_cn_3, fw_cn_4, fw_cn_5, Nat.reduceAdd, fw_w_id, fw_wl_id, fw_r_k, fw_r_j, fw_r_s, if_true, if_false]
theorem fs_cp5 {x1 x2 x3 : Int} : ∀ (k : Nat) (i : Int) (m : fw_M), fw_ptr m → 0 ≤ i → i + k = fw_r m 32 10 → i + k ≤ 300 → fw_E 147 178 [(2, 32), (0, x1), (0, x2), (0, x3), (0, i)] [] m = fw_E 147 210 [(2, 32), (0, x1), (0, x2), (0, x3), (0, 0)] [] (fg_cp m 40 50 i (i + k)) := by
  intro k
  induction k with
  | zero =>
    intro i m hp h0 h1 h2
    rw [fg_cp_0 _ _ _ _ _ (by omega)]
    simp (disch := first | omega | assumption | (simp (disch := omega) only [fw_w_id, fw_wl_id, fw_r_k, fw_r_j, fw_r_s]; omega) | (simp only [fw_ptr_1_8, fw_ptr_2_5, fw_ptr_2_6, fw_ptr_2_7, fw_ptr_2_8, fw_ptr_2_9, fw_ptr_8_2, fw_ptr_8_3, fw_ptr_11_2, fw_ptr_11_3, fw_ptr_11_4, fw_ptr_11_5, fw_ptr_11_6, fw_ptr_17_8, fw_ptr_18_2, fw_ptr_18_3, fw_ptr_25_1, fw_ptr_27_2, fw_ptr_28_1, fw_ptr_32_0, fw_ptr_32_1, fw_ptr_32_3, fw_ptr_32_7, fw_ptr_32_8, fw_ptr_32_9, fw_ptr_32_10, fw_ptr_32_15, fw_ptr_32_16, fw_ptr_32_17, fw_ptr_32_18, fw_ptr_32_19, fw_ptr_32_25, fw_ptr_32_29, fw_ptr_3, fw_ptr_4, fw_ptr_5, fw_ptr_6, fw_ptr_7, fw_ptr_9, fw_ptr_10, fw_ptr_13, fw_ptr_15, fw_ptr_16, fw_ptr_19, fw_ptr_20, fw_ptr_21, fw_ptr_22, fw_ptr_23, fw_ptr_24, fw_ptr_26, fw_ptr_29, fw_ptr_30, fw_ptr_31, fw_ptr_33, fw_ptr_34, fw_ptr_35, fw_ptr_36, fw_ptr_37, fw_ptr_38, fw_ptr_39, fw_ptr_40, fw_ptr_41, fw_ptr_42, fw_ptr_43, fw_ptr_44, fw_ptr_45, fw_ptr_46, fw_ptr_47, fw_ptr_48, fw_ptr_49, fw_ptr_50, fw_ptr_51, fw_ptr_52, fw_ptr_53, fw_ptr_54, fw_ptr_55, fw_ptr_12, fw_ptr_x, fw_ptr_hi, fw_ptr_b3, fw_ptr_b1, fw_ptr_b2, fw_ptr_b2_]; assumption)) only [fw_b_147_178, fw_b_147_207, ↓if_pos, ↓if_neg, if_neg, if_pos, fw_bs, fw_cn_0, fw_cn_1, fw_cn_2, fw_cn_3, fw_cn_4, fw_cn_5, Nat.reduceAdd, fw_w_id, fw_wl_id, fw_r_k, fw_r_j, fw_r_s, if_true, if_false]
  | succ k ih =>
    intro i m hp h0 h1 h2
    have e := ih (i + 1) (fw_u m 40 i (fw_r m 50 i)) (by rw [fw_ptr_40]; exact hp) (by omega) (by rw [fw_r_k _ (by decide)]; omega) (by omega)
    have ek : i + 1 + (k : Int) = i + ((k + 1 : Nat) : Int) := by omega
    rw [ek, fg_cp_s m (by omega) (by decide)] at e
    rw [← e, fw_b_147_178]
    simp (disch := first | omega | assumption | (simp (disch := omega) only [fw_w_id, fw_wl_id, fw_r_k, fw_r_j, fw_r_s]; omega) | (simp only [fw_ptr_1_8, fw_ptr_2_5, fw_ptr_2_6, fw_ptr_2_7, fw_ptr_2_8, fw_ptr_2_9, fw_ptr_8_2, fw_ptr_8_3, fw_ptr_11_2, fw_ptr_11_3, fw_ptr_11_4, fw_ptr_11_5, fw_ptr_11_6, fw_ptr_17_8, fw_ptr_18_2, fw_ptr_18_3, fw_ptr_25_1, fw_ptr_27_2, fw_ptr_28_1, fw_ptr_32_0, fw_ptr_32_1, fw_ptr_32_3, fw_ptr_32_7, fw_ptr_32_8, fw_ptr_32_9, fw_ptr_32_10, fw_ptr_32_15, fw_ptr_32_16, fw_ptr_32_17, fw_ptr_32_18, fw_ptr_32_19, fw_ptr_32_25, fw_ptr_32_29, fw_ptr_3, fw_ptr_4, fw_ptr_5, fw_ptr_6, fw_ptr_7, fw_ptr_9, fw_ptr_10, fw_ptr_13, fw_ptr_15, fw_ptr_16, fw_ptr_19, fw_ptr_20, fw_ptr_21, fw_ptr_22, fw_ptr_23, fw_ptr_24, fw_ptr_26, fw_ptr_29, fw_ptr_30, fw_ptr_31, fw_ptr_33, fw_ptr_34, fw_ptr_35, fw_ptr_36, fw_ptr_37, fw_ptr_38, fw_ptr_39, fw_ptr_40, fw_ptr_41, fw_ptr_42, fw_ptr_43, fw_ptr_44, fw_ptr_45, fw_ptr_46, fw_ptr_47, fw_ptr_48, fw_ptr_49, fw_ptr_50, fw_ptr_51, fw_ptr_52, fw_ptr_53, fw_ptr_54, fw_ptr_55, fw_ptr_12, fw_ptr_x, fw_ptr_hi, fw_ptr_b3, fw_ptr_b1, fw_ptr_b2, fw_ptr_b2_]; assumption)) only [fw_b_147_187, fw_b_147_201, ↓if_pos, ↓if_neg, if_neg, if_pos, fw_bs, fw_cn_0, fw_cn_1, fw_cn_2, fw_cn_3, fw_cn_4, fw_cn_5, Nat.reduceAdd, fw_w_id, fw_wl_id, fw_r_k, fw_r_j, fw_r_s, if_true, if_false]
theorem fs_cp6 {x1 x2 x3 : Int} : ∀ (k : Nat) (i : Int) (m : fw_M), fw_ptr m → 0 ≤ i → i + k = fw_r m 32 3 → i + k ≤ 6 → fw_E 147 210 [(2, 32), (0, x1), (0, x2), (0, x3), (0, i)] [] m = some ((0, x3), fg_cp m 42 51 i (i + k)) := by
  intro k
  induction k with
  | zero =>
    intro i m hp h0 h1 h2
    rw [fg_cp_0 _ _ _ _ _ (by omega)]
    simp (disch := first | omega | assumption | (simp (disch := omega) only [fw_w_id, fw_wl_id, fw_r_k, fw_r_j, fw_r_s]; omega) | (simp only [fw_ptr_1_8, fw_ptr_2_5, fw_ptr_2_6, fw_ptr_2_7, fw_ptr_2_8, fw_ptr_2_9, fw_ptr_8_2, fw_ptr_8_3, fw_ptr_11_2, fw_ptr_11_3, fw_ptr_11_4, fw_ptr_11_5, fw_ptr_11_6, fw_ptr_17_8, fw_ptr_18_2, fw_ptr_18_3, fw_ptr_25_1, fw_ptr_27_2, fw_ptr_28_1, fw_ptr_32_0, fw_ptr_32_1, fw_ptr_32_3, fw_ptr_32_7, fw_ptr_32_8, fw_ptr_32_9, fw_ptr_32_10, fw_ptr_32_15, fw_ptr_32_16, fw_ptr_32_17, fw_ptr_32_18, fw_ptr_32_19, fw_ptr_32_25, fw_ptr_32_29, fw_ptr_3, fw_ptr_4, fw_ptr_5, fw_ptr_6, fw_ptr_7, fw_ptr_9, fw_ptr_10, fw_ptr_13, fw_ptr_15, fw_ptr_16, fw_ptr_19, fw_ptr_20, fw_ptr_21, fw_ptr_22, fw_ptr_23, fw_ptr_24, fw_ptr_26, fw_ptr_29, fw_ptr_30, fw_ptr_31, fw_ptr_33, fw_ptr_34, fw_ptr_35, fw_ptr_36, fw_ptr_37, fw_ptr_38, fw_ptr_39, fw_ptr_40, fw_ptr_41, fw_ptr_42, fw_ptr_43, fw_ptr_44, fw_ptr_45, fw_ptr_46, fw_ptr_47, fw_ptr_48, fw_ptr_49, fw_ptr_50, fw_ptr_51, fw_ptr_52, fw_ptr_53, fw_ptr_54, fw_ptr_55, fw_ptr_12, fw_ptr_x, fw_ptr_hi, fw_ptr_b3, fw_ptr_b1, fw_ptr_b2, fw_ptr_b2_]; assumption)) only [fw_b_147_210, fw_b_147_239, ↓if_pos, ↓if_neg, if_neg, if_pos, fw_bs, fw_cn_0, fw_cn_1, fw_cn_2, fw_cn_3, fw_cn_4, fw_cn_5, Nat.reduceAdd, fw_w_id, fw_wl_id, fw_r_k, fw_r_j, fw_r_s, if_true, if_false]
  | succ k ih =>
    intro i m hp h0 h1 h2
    have e := ih (i + 1) (fw_u m 42 i (fw_r m 51 i)) (by rw [fw_ptr_42]; exact hp) (by omega) (by rw [fw_r_k _ (by decide)]; omega) (by omega)
    have ek : i + 1 + (k : Int) = i + ((k + 1 : Nat) : Int) := by omega
    rw [ek, fg_cp_s m (by omega) (by decide)] at e
    rw [← e, fw_b_147_210]
    simp (disch := first | omega | assumption | (simp (disch := omega) only [fw_w_id, fw_wl_id, fw_r_k, fw_r_j, fw_r_s]; omega) | (simp only [fw_ptr_1_8, fw_ptr_2_5, fw_ptr_2_6, fw_ptr_2_7, fw_ptr_2_8, fw_ptr_2_9, fw_ptr_8_2, fw_ptr_8_3, fw_ptr_11_2, fw_ptr_11_3, fw_ptr_11_4, fw_ptr_11_5, fw_ptr_11_6, fw_ptr_17_8, fw_ptr_18_2, fw_ptr_18_3, fw_ptr_25_1, fw_ptr_27_2, fw_ptr_28_1, fw_ptr_32_0, fw_ptr_32_1, fw_ptr_32_3, fw_ptr_32_7, fw_ptr_32_8, fw_ptr_32_9, fw_ptr_32_10, fw_ptr_32_15, fw_ptr_32_16, fw_ptr_32_17, fw_ptr_32_18, fw_ptr_32_19, fw_ptr_32_25, fw_ptr_32_29, fw_ptr_3, fw_ptr_4, fw_ptr_5, fw_ptr_6, fw_ptr_7, fw_ptr_9, fw_ptr_10, fw_ptr_13, fw_ptr_15, fw_ptr_16, fw_ptr_19, fw_ptr_20, fw_ptr_21, fw_ptr_22, fw_ptr_23, fw_ptr_24, fw_ptr_26, fw_ptr_29, fw_ptr_30, fw_ptr_31, fw_ptr_33, fw_ptr_34, fw_ptr_35, fw_ptr_36, fw_ptr_37, fw_ptr_38, fw_ptr_39, fw_ptr_40, fw_ptr_41, fw_ptr_42, fw_ptr_43, fw_ptr_44, fw_ptr_45, fw_ptr_46, fw_ptr_47, fw_ptr_48, fw_ptr_49, fw_ptr_50, fw_ptr_51, fw_ptr_52, fw_ptr_53, fw_ptr_54, fw_ptr_55, fw_ptr_12, fw_ptr_x, fw_ptr_hi, fw_ptr_b3, fw_ptr_b1, fw_ptr_b2, fw_ptr_b2_]; assumption)) only [fw_b_147_219, fw_b_147_233, ↓if_pos, ↓if_neg, if_neg, if_pos, fw_bs, fw_cn_0, fw_cn_1, fw_cn_2, fw_cn_3, fw_cn_4, fw_cn_5, Nat.reduceAdd, fw_w_id, fw_wl_id, fw_r_k, fw_r_j, fw_r_s, if_true, if_false]
/-- all but what a look ahead moves is as it was -/
def fg_OT (m m' : fw_M) : Prop := (∀ a j, a ≠ 33 → a ≠ 40 → a ≠ 42 → (a ≠ 32 ∨ j ≠ 15) → fw_r m' a j = fw_r m a j) ∧ (∀ j, ¬(0 ≤ j ∧ j < fw_r m 32 1) → fw_r m' 33 j = fw_r m 33 j) ∧ (∀ j, ¬(0 ≤ j ∧ j < fw_r m 32 10) → fw_r m' 40 j = fw_r m 40 j) ∧ (∀ j, ¬(0 ≤ j ∧ j < fw_r m 32 3) → fw_r m' 42 j = fw_r m 42 j)
theorem fg_OT_refl (m : fw_M) : fg_OT m m := ⟨fun _ _ _ _ _ _ => rfl, fun _ _ => rfl, fun _ _ => rfl, fun _ _ => rfl⟩
theorem fg_OT_trans {a b c : fw_M} (h : fg_OT a b) (h2 : fg_OT b c) : fg_OT a c := by
  have e1 := h.1 32 1 (by decide) (by decide) (by decide) (by decide)
  have e3 := h.1 32 3 (by decide) (by decide) (by decide) (by decide)
  have e10 := h.1 32 10 (by decide) (by decide) (by decide) (by decide)
  refine ⟨fun x j p q r s => (h2.1 x j p q r s).trans (h.1 x j p q r s), fun j hj => (h2.2.1 j (by rw [e1]; exact hj)).trans (h.2.1 j hj), fun j hj => (h2.2.2.1 j (by rw [e10]; exact hj)).trans (h.2.2.1 j hj), fun j hj => (h2.2.2.2 j (by rw [e3]; exact hj)).trans (h.2.2.2 j hj)⟩
theorem fg_OT_mvs {m : fw_M} {M : Int} (h : fg_ML M m) : fg_OT m (fg_mvs m) := by
  have ht := h.2.1.2.2.1 (fw_r m 32 1 - 1) (by have := h.1.2.2.1; omega) (by omega)
  have hF := h.2.1.2.1
  refine ⟨fun a j h1 h2 _ _ => fg_mvs_o m h1 h2, fun j hj => fg_mvs_33o hj, fun j hj => ?_, fun j hj => fg_mvs_o m (by decide) (by decide)⟩
  rw [fg_mvs_40, if_neg (by omega)]
theorem fg_OT_lc {m : fw_M} {M i : Int} (h : fg_ML M m) (h0 : 0 ≤ i) (h1 : i < fw_r m 32 3) : fg_OT m (fg_lc m i) := by
  have hc := h.1.2.2.2.2.1 i h0 h1
  have hN := h.1.2.2.1
  refine ⟨fun a j q1 q2 q3 _ => fg_lc_o m i (Or.inl q1) (Or.inl q3), fun j hj => fg_lc_o m i (Or.inr (by omega)) (Or.inl (by decide)), fun j hj => fg_lc_o m i (Or.inl (by decide)) (Or.inl (by decide)), fun j hj => fg_lc_o m i (Or.inl (by decide)) (Or.inr (by omega))⟩
theorem fg_OT_lo {m : fw_M} {M : Int} (h : fg_ML M m) : fg_OT m (fg_lo m) := by
  have hN := h.1.2.2.1
  refine ⟨fun a j q1 q2 q3 _ => fg_lo_o m (Or.inl q1), fun j hj => fg_lo_o m (Or.inr (by omega)), fun j hj => fg_lo_o m (Or.inl (by decide)), fun j hj => fg_lo_o m (Or.inl (by decide))⟩
theorem fg_OT_ll {m : fw_M} {M : Int} (h : fg_ML M m) : fg_OT m (fg_ll m) := by
  have hN := h.1.2.2.1
  refine ⟨fun a j q1 q2 q3 q4 => fg_ll_o m (Or.inl q1) q4, fun j hj => fg_ll_o m (Or.inr (by omega)) (Or.inl (by decide)), fun j hj => fg_ll_o m (Or.inl (by decide)) (Or.inl (by decide)), fun j hj => fg_ll_o m (Or.inl (by decide)) (Or.inl (by decide))⟩
theorem fg_OT_lcn : ∀ (k : Nat) (i M : Int) (m : fw_M), fg_ML M m → 0 ≤ i → i + k = fw_r m 32 3 → fg_OT m (fg_lcn m i k) ∧ fg_ML M (fg_lcn m i k) := by
  intro k
  induction k with
  | zero => intro i M m h h0 h1; exact ⟨fg_OT_refl m, h⟩
  | succ k ih =>
    intro i M m h h0 h1
    have e3 : fw_r (fg_lc m i) 32 3 = fw_r m 32 3 := fg_lc_n m i 32 (by decide) (by decide) 3
    obtain ⟨q1, q2⟩ := ih (i + 1) M (fg_lc m i) (fg_ML_lc h h0 (by omega)) (by omega) (by rw [e3]; omega)
    exact ⟨fg_OT_trans (fg_OT_lc h h0 (by omega)) q1, q2⟩
theorem fg_OT_T2 {m : fw_M} {M : Int} (h : fg_ML M m) : fg_OT m (fg_T2 m) := by
  have h1 := fg_ML_mvs h
  have hn := h.1.2.1
  have e : fw_r (fg_mvs m) 32 3 = fw_r m 32 3 := fg_mvs_o m (by decide) (by decide)
  have hk : ((fg_n m : Nat) : Int) = fw_r m 32 3 := by unfold fg_n; omega
  obtain ⟨q1, q2⟩ := fg_OT_lcn (fg_n m) 0 (M + 1) (fg_mvs m) h1 (by omega) (by omega)
  exact fg_OT_trans (fg_OT_mvs h) (fg_OT_trans q1 (fg_OT_trans (fg_OT_lo q2) (fg_OT_ll (fg_ML_lo q2))))
theorem fs_la_lp {x1 x2 : Int} : ∀ (k : Nat) (i acc M : Int) (m : fw_M), fg_ML M m → M + k ≤ 1000000000 → 0 ≤ i → i + k = x1 → x1 ≤ 200 → 0 ≤ acc → acc ≤ 7 * i → fw_E 147 119 [(2, 32), (0, x1), (0, x2), (0, acc), (0, i)] [] m = fw_E 147 138 [(2, 32), (0, x1), (0, x2), (0, acc + fg_Cn k m), (0, x1)] [] (fg_Tn k m) ∧ fg_OT m (fg_Tn k m) ∧ fw_ptr (fg_Tn k m) := by
  intro k
  induction k with
  | zero =>
    intro i acc M m h hM h0 h1 h2 h3 h4
    have hi : i = x1 := by omega
    subst hi
    refine ⟨?_, fg_OT_refl m, h.1.1⟩
    rw [fw_b_147_119, if_neg (by omega), fg_Cn, fg_Tn, Int.add_zero]
  | succ k ih =>
    intro i acc M m h hM h0 h1 h2 h3 h4
    obtain ⟨q1, q2, q3⟩ := fs_looksOne (a1 := (8, 0)) (a2 := (8, 0)) h (by omega)
    obtain ⟨r1, r2, r3⟩ := ih (i + 1) (acc + fg_C2 m) (M + 1) (fg_T2 m) (fg_ML_T2 h) (by omega) (by omega) (by omega) h2 (by omega) (by omega)
    refine ⟨?_, fg_OT_trans (fg_OT_T2 h) r2, r3⟩
    rw [fg_Cn, fg_Tn, ← Int.add_assoc, ← r1, fw_b_147_119]
    simp (disch := first | omega | assumption | (simp (disch := omega) only [fw_w_id, fw_wl_id, fw_r_k, fw_r_j, fw_r_s]; omega) | (simp only [fw_ptr_1_8, fw_ptr_2_5, fw_ptr_2_6, fw_ptr_2_7, fw_ptr_2_8, fw_ptr_2_9, fw_ptr_8_2, fw_ptr_8_3, fw_ptr_11_2, fw_ptr_11_3, fw_ptr_11_4, fw_ptr_11_5, fw_ptr_11_6, fw_ptr_17_8, fw_ptr_18_2, fw_ptr_18_3, fw_ptr_25_1, fw_ptr_27_2, fw_ptr_28_1, fw_ptr_32_0, fw_ptr_32_1, fw_ptr_32_3, fw_ptr_32_7, fw_ptr_32_8, fw_ptr_32_9, fw_ptr_32_10, fw_ptr_32_15, fw_ptr_32_16, fw_ptr_32_17, fw_ptr_32_18, fw_ptr_32_19, fw_ptr_32_25, fw_ptr_32_29, fw_ptr_3, fw_ptr_4, fw_ptr_5, fw_ptr_6, fw_ptr_7, fw_ptr_9, fw_ptr_10, fw_ptr_13, fw_ptr_15, fw_ptr_16, fw_ptr_19, fw_ptr_20, fw_ptr_21, fw_ptr_22, fw_ptr_23, fw_ptr_24, fw_ptr_26, fw_ptr_29, fw_ptr_30, fw_ptr_31, fw_ptr_33, fw_ptr_34, fw_ptr_35, fw_ptr_36, fw_ptr_37, fw_ptr_38, fw_ptr_39, fw_ptr_40, fw_ptr_41, fw_ptr_42, fw_ptr_43, fw_ptr_44, fw_ptr_45, fw_ptr_46, fw_ptr_47, fw_ptr_48, fw_ptr_49, fw_ptr_50, fw_ptr_51, fw_ptr_52, fw_ptr_53, fw_ptr_54, fw_ptr_55, fw_ptr_12, fw_ptr_x, fw_ptr_hi, fw_ptr_b3, fw_ptr_b1, fw_ptr_b2, fw_ptr_b2_]; assumption)) only [fw_b_147_125, q1, fw_b_147_130, ↓if_pos, ↓if_neg, if_neg, if_pos, fw_bs, fw_cn_0, fw_cn_1, fw_cn_2, fw_cn_3, fw_cn_4, fw_cn_5, Nat.reduceAdd, fw_w_id, fw_wl_id, fw_r_k, fw_r_j, fw_r_s, if_true, if_false]
theorem fg_Cn_bd : ∀ (k : Nat) (M : Int) (m : fw_M), fg_ML M m → M + k ≤ 1000000000 → 0 ≤ fg_Cn k m ∧ fg_Cn k m ≤ 7 * k := by
  intro k
  induction k with
  | zero => intro M m h hM; simp [fg_Cn]
  | succ k ih =>
    intro M m h hM
    have q := (fs_looksOne (a1 := (8, 0)) (a2 := (8, 0)) h (by omega)).2
    have := ih (M + 1) (fg_T2 m) (fg_ML_T2 h) (by omega)
    rw [fg_Cn]; omega
theorem fs_la_no {m : fw_M} {x : Int} {a2 a3 a4 : fw_V} (h : ¬(1 ≤ x ∧ x ≤ 200)) : fw_E 147 0 [(2, 32), (0, x), a2, a3, a4] [] m = some ((0, 0), fw_u m 32 0 1) := by
  have e : fw_E 123 0 [(0, x), (0, 1), (0, 200)] [] m = some ((0, 0), m) := by rw [fs_isIn, if_neg h]
  have e2 : fw_E 124 0 [(2, 32), (0, 1)] [] m = some ((0, 0), fw_u m 32 0 1) := fs_goesOn_n (by decide)
  simp (disch := first | omega | assumption | (simp (disch := omega) only [fw_w_id, fw_wl_id, fw_r_k, fw_r_j, fw_r_s]; omega) | (simp only [fw_ptr_1_8, fw_ptr_2_5, fw_ptr_2_6, fw_ptr_2_7, fw_ptr_2_8, fw_ptr_2_9, fw_ptr_8_2, fw_ptr_8_3, fw_ptr_11_2, fw_ptr_11_3, fw_ptr_11_4, fw_ptr_11_5, fw_ptr_11_6, fw_ptr_17_8, fw_ptr_18_2, fw_ptr_18_3, fw_ptr_25_1, fw_ptr_27_2, fw_ptr_28_1, fw_ptr_32_0, fw_ptr_32_1, fw_ptr_32_3, fw_ptr_32_7, fw_ptr_32_8, fw_ptr_32_9, fw_ptr_32_10, fw_ptr_32_15, fw_ptr_32_16, fw_ptr_32_17, fw_ptr_32_18, fw_ptr_32_19, fw_ptr_32_25, fw_ptr_32_29, fw_ptr_3, fw_ptr_4, fw_ptr_5, fw_ptr_6, fw_ptr_7, fw_ptr_9, fw_ptr_10, fw_ptr_13, fw_ptr_15, fw_ptr_16, fw_ptr_19, fw_ptr_20, fw_ptr_21, fw_ptr_22, fw_ptr_23, fw_ptr_24, fw_ptr_26, fw_ptr_29, fw_ptr_30, fw_ptr_31, fw_ptr_33, fw_ptr_34, fw_ptr_35, fw_ptr_36, fw_ptr_37, fw_ptr_38, fw_ptr_39, fw_ptr_40, fw_ptr_41, fw_ptr_42, fw_ptr_43, fw_ptr_44, fw_ptr_45, fw_ptr_46, fw_ptr_47, fw_ptr_48, fw_ptr_49, fw_ptr_50, fw_ptr_51, fw_ptr_52, fw_ptr_53, fw_ptr_54, fw_ptr_55, fw_ptr_12, fw_ptr_x, fw_ptr_hi, fw_ptr_b3, fw_ptr_b1, fw_ptr_b2, fw_ptr_b2_]; assumption)) only [fw_b_147_0, fw_b_147_9, fw_b_147_16, fw_b_147_20, fw_b_147_23, e, e2, ↓if_pos, ↓if_neg, if_neg, if_pos, fw_bs, fw_cn_0, fw_cn_1, fw_cn_2, fw_cn_3, fw_cn_4, fw_cn_5, Nat.reduceAdd, fw_w_id, fw_wl_id, fw_r_k, fw_r_j, fw_r_s, if_true, if_false]
/-- only the copies and the code are new -/
def fg_SL (m m' : fw_M) : Prop := ∀ a j, a ≠ 49 → a ≠ 50 → a ≠ 51 → (a ≠ 32 ∨ j ≠ 0) → fw_r m' a j = fw_r m a j
theorem fg_ML_32_0 {m : fw_M} {M v : Int} (h : fg_ML M m) : fg_ML M (fw_u m 32 0 v) := by
  have e : ∀ a j, (a ≠ 32 ∨ j ≠ 0) → fw_r (fw_u m 32 0 v) a j = fw_r m a j := fun a j h => by rw [fw_r_u, if_neg (by omega)]
  obtain ⟨h1, h2, h3, h4⟩ := h
  refine ⟨fg_MC_m h1 (by rw [fw_ptr_32_0]; exact h1.1) (fun j _ _ _ _ _ hj => fw_r_j _ hj) (fun a j ha => fw_r_k _ (by omega)), fg_TR_m h2 (fw_r_j _ (by decide)) (fw_r_j _ (by decide)) (fw_r_j _ (by decide)) (fun j => fw_r_k _ (by decide)) (fun j => fw_r_k _ (by decide)), fun i a b => ?_, fun p a b => ?_⟩
  · rw [e 32 3 (by decide)] at b
    rw [e 42 i (Or.inl (by decide))]; exact h3 i a b
  · rw [e 32 10 (by decide)] at b
    rw [e 40 p (Or.inl (by decide))]; exact h4 p a b
theorem fs_la {m : fw_M} {M x : Int} {a2 a3 a4 : fw_V} (h : fg_ML M m) (hM : M ≤ 1000000) (h1 : 1 ≤ x ∧ x ≤ 200) : ∃ m1 m', fg_ML M m1 ∧ (∀ a j, a ≠ 49 → a ≠ 50 → a ≠ 51 → (a ≠ 32 ∨ j ≠ 0) → fw_r m1 a j = fw_r m a j) ∧ fw_E 147 0 [(2, 32), (0, x), a2, a3, a4] [] m = some ((0, fg_Cn x.toNat m1), m') ∧ fg_SL m m' ∧ fw_r m' 32 0 = 0 := by
  have e1 : fw_E 123 0 [(0, x), (0, 1), (0, 200)] [] m = some ((0, 1), m) := by rw [fs_isIn, if_pos h1]
  have hh := fg_ML_32_0 (v := 0) h
  have hn := hh.1.2.1
  have hN := hh.1.2.2.1
  have hP := hh.1.2.2.2.1
  have hp0 := hh.1.1
  have n49 : ∀ q ∈ fw_psT, q.1 ≠ 49 := by decide
  have n50 : ∀ q ∈ fw_psT, q.1 ≠ 50 := by decide
  have n51 : ∀ q ∈ fw_psT, q.1 ≠ 51 := by decide
  have n33 : ∀ q ∈ fw_psT, q.1 ≠ 33 := by decide
  have n40 : ∀ q ∈ fw_psT, q.1 ≠ 40 := by decide
  generalize hm0 : fw_u m 32 0 0 = m0 at *
  have c1 := fs_cp1 (x1 := x) (x2 := fw_r m0 32 15) (a4 := a4) (fw_r m0 32 1).toNat 0 m0 hp0 (by omega) (by omega) (by omega)
  have k1 : (0 : Int) + (((fw_r m0 32 1).toNat : Nat) : Int) = fw_r m0 32 1 := by omega
  rw [k1] at c1
  generalize hmA : fg_cp m0 49 33 0 (fw_r m0 32 1) = mA at c1
  have oA : ∀ a j, a ≠ 49 → fw_r mA a j = fw_r m0 a j := fun a j ha => by rw [← hmA]; exact fg_cp_o _ _ _ _ _ ha
  have pA : fw_ptr mA := by rw [← hmA]; exact fg_cp_ptr hp0 n49
  have c2 := fs_cp2 (x1 := x) (x2 := fw_r m0 32 15) (a4 := a4) (fw_r m0 32 10).toNat 0 mA pA (by omega) (by rw [oA 32 10 (by decide)]; omega) (by omega)
  have k2 : (0 : Int) + (((fw_r m0 32 10).toNat : Nat) : Int) = fw_r m0 32 10 := by omega
  rw [k2] at c2
  generalize hmB : fg_cp mA 50 40 0 (fw_r m0 32 10) = mB at c2
  have oB : ∀ a j, a ≠ 50 → fw_r mB a j = fw_r mA a j := fun a j ha => by rw [← hmB]; exact fg_cp_o _ _ _ _ _ ha
  have pB : fw_ptr mB := by rw [← hmB]; exact fg_cp_ptr pA n50
  have c3 := fs_cp3 (x1 := x) (x2 := fw_r m0 32 15) (a4 := a4) (fw_r m0 32 3).toNat 0 mB pB (by omega) (by rw [oB 32 3 (by decide), oA 32 3 (by decide)]; omega) (by omega)
  have k3 : (0 : Int) + (((fw_r m0 32 3).toNat : Nat) : Int) = fw_r m0 32 3 := by omega
  rw [k3] at c3
  generalize hmC : fg_cp mB 51 42 0 (fw_r m0 32 3) = mC at c3
  have oC : ∀ a j, a ≠ 51 → fw_r mC a j = fw_r mB a j := fun a j ha => by rw [← hmC]; exact fg_cp_o _ _ _ _ _ ha
  have pC : fw_ptr mC := by rw [← hmC]; exact fg_cp_ptr pB n51
  have oM : ∀ a j, a ≠ 49 → a ≠ 50 → a ≠ 51 → fw_r mC a j = fw_r m0 a j := fun a j q1 q2 q3 => by rw [oC a j q3, oB a j q2, oA a j q1]
  have hC : fg_ML M mC := by
    obtain ⟨g1, g2, g3, g4⟩ := hh
    refine ⟨fg_MC_m g1 pC (fun j _ _ _ _ _ _ => oM _ _ (by decide) (by decide) (by decide)) (fun a j ha => oM _ _ (by omega) (by omega) (by omega)), fg_TR_m g2 (oM _ _ (by decide) (by decide) (by decide)) (oM _ _ (by decide) (by decide) (by decide)) (oM _ _ (by decide) (by decide) (by decide)) (fun j => oM _ _ (by decide) (by decide) (by decide)) (fun j => oM _ _ (by decide) (by decide) (by decide)), fun i a b => ?_, fun p a b => ?_⟩
    · rw [oM 32 3 (by decide) (by decide) (by decide)] at b
      rw [oM 42 i (by decide) (by decide) (by decide)]; exact g3 i a b
    · rw [oM 32 10 (by decide) (by decide) (by decide)] at b
      rw [oM 40 p (by decide) (by decide) (by decide)]; exact g4 p a b
  obtain ⟨c4, ot, pT⟩ := fs_la_lp (x1 := x) (x2 := fw_r m0 32 15) x.toNat 0 0 M mC hC (by omega) (by omega) (by omega) h1.2 (by omega) (by omega)
  rw [Int.zero_add] at c4
  generalize hmT : fg_Tn x.toNat mC = mT at c4 ot pT
  generalize hcn : fg_Cn x.toNat mC = cn at c4
  have q1 : fw_r mC 32 1 = fw_r m0 32 1 := oM _ _ (by decide) (by decide) (by decide)
  have q3 : fw_r mC 32 3 = fw_r m0 32 3 := oM _ _ (by decide) (by decide) (by decide)
  have q10 : fw_r mC 32 10 = fw_r m0 32 10 := oM _ _ (by decide) (by decide) (by decide)
  have tT : ∀ a j, a ≠ 33 → a ≠ 40 → a ≠ 42 → (a ≠ 32 ∨ j ≠ 15) → fw_r mT a j = fw_r mC a j := ot.1
  have p5 : fw_ptr (fw_u mT 32 15 (fw_r m0 32 15)) := by rw [fw_ptr_32_15]; exact pT
  have c5 := fs_cp4 (x1 := x) (x2 := fw_r m0 32 15) (x3 := cn) (fw_r m0 32 1).toNat 0 (fw_u mT 32 15 (fw_r m0 32 15)) p5 (by omega) (by rw [fw_r_j _ (by decide), tT 32 1 (by decide) (by decide) (by decide) (by decide), q1]; omega) (by omega)
  rw [k1] at c5
  generalize hmD : fg_cp (fw_u mT 32 15 (fw_r m0 32 15)) 33 49 0 (fw_r m0 32 1) = mD at c5
  have oD : ∀ a j, a ≠ 33 → fw_r mD a j = fw_r (fw_u mT 32 15 (fw_r m0 32 15)) a j := fun a j ha => by rw [← hmD]; exact fg_cp_o _ _ _ _ _ ha
  have pD : fw_ptr mD := by rw [← hmD]; exact fg_cp_ptr p5 n33
  have c6 := fs_cp5 (x1 := x) (x2 := fw_r m0 32 15) (x3 := cn) (fw_r m0 32 10).toNat 0 mD pD (by omega) (by rw [oD 32 10 (by decide), fw_r_j _ (by decide), tT 32 10 (by decide) (by decide) (by decide) (by decide), q10]; omega) (by omega)
  rw [k2] at c6
  generalize hmE : fg_cp mD 40 50 0 (fw_r m0 32 10) = mE at c6
  have oE : ∀ a j, a ≠ 40 → fw_r mE a j = fw_r mD a j := fun a j ha => by rw [← hmE]; exact fg_cp_o _ _ _ _ _ ha
  have pE : fw_ptr mE := by rw [← hmE]; exact fg_cp_ptr pD n40
  have c7 := fs_cp6 (x1 := x) (x2 := fw_r m0 32 15) (x3 := cn) (fw_r m0 32 3).toNat 0 mE pE (by omega) (by rw [oE 32 3 (by decide), oD 32 3 (by decide), fw_r_j _ (by decide), tT 32 3 (by decide) (by decide) (by decide) (by decide), q3]; omega) (by omega)
  rw [k3] at c7
  have o0 : ∀ a j, (a ≠ 32 ∨ j ≠ 0) → fw_r m0 a j = fw_r m a j := fun a j h => by rw [← hm0, fw_r_u, if_neg (by omega)]
  refine ⟨mC, fg_cp mE 42 51 0 (fw_r m0 32 3), hC, fun a j w1 w2 w3 w4 => (oM a j w1 w2 w3).trans (o0 a j w4), ?_, ?_, ?_⟩
  · have e2 : fw_E 124 0 [(2, 32), (0, 0)] [] m = some ((0, 1), m0) := by rw [← hm0]; exact fs_goesOn_0
    simp (disch := first | omega | assumption | (simp (disch := omega) only [fw_w_id, fw_wl_id, fw_r_k, fw_r_j, fw_r_s]; omega) | (simp only [fw_ptr_1_8, fw_ptr_2_5, fw_ptr_2_6, fw_ptr_2_7, fw_ptr_2_8, fw_ptr_2_9, fw_ptr_8_2, fw_ptr_8_3, fw_ptr_11_2, fw_ptr_11_3, fw_ptr_11_4, fw_ptr_11_5, fw_ptr_11_6, fw_ptr_17_8, fw_ptr_18_2, fw_ptr_18_3, fw_ptr_25_1, fw_ptr_27_2, fw_ptr_28_1, fw_ptr_32_0, fw_ptr_32_1, fw_ptr_32_3, fw_ptr_32_7, fw_ptr_32_8, fw_ptr_32_9, fw_ptr_32_10, fw_ptr_32_15, fw_ptr_32_16, fw_ptr_32_17, fw_ptr_32_18, fw_ptr_32_19, fw_ptr_32_25, fw_ptr_32_29, fw_ptr_3, fw_ptr_4, fw_ptr_5, fw_ptr_6, fw_ptr_7, fw_ptr_9, fw_ptr_10, fw_ptr_13, fw_ptr_15, fw_ptr_16, fw_ptr_19, fw_ptr_20, fw_ptr_21, fw_ptr_22, fw_ptr_23, fw_ptr_24, fw_ptr_26, fw_ptr_29, fw_ptr_30, fw_ptr_31, fw_ptr_33, fw_ptr_34, fw_ptr_35, fw_ptr_36, fw_ptr_37, fw_ptr_38, fw_ptr_39, fw_ptr_40, fw_ptr_41, fw_ptr_42, fw_ptr_43, fw_ptr_44, fw_ptr_45, fw_ptr_46, fw_ptr_47, fw_ptr_48, fw_ptr_49, fw_ptr_50, fw_ptr_51, fw_ptr_52, fw_ptr_53, fw_ptr_54, fw_ptr_55, fw_ptr_12, fw_ptr_x, fw_ptr_hi, fw_ptr_b3, fw_ptr_b1, fw_ptr_b2, fw_ptr_b2_]; assumption)) only [fw_b_147_0, fw_b_147_9, fw_b_147_12, fw_b_147_20, fw_b_147_25, e1, e2, ↓if_pos, ↓if_neg, if_neg, if_pos, fw_bs, fw_cn_0, fw_cn_1, fw_cn_2, fw_cn_3, fw_cn_4, fw_cn_5, Nat.reduceAdd, fw_w_id, fw_wl_id, fw_r_k, fw_r_j, fw_r_s, if_true, if_false]
    rw [c1, c2, c3, c4, fw_b_147_138, fw_b_147_143, c5, c6, c7, hcn]
  · intro a j w1 w2 w3 w4
    have hb : fw_r (fg_cp mE 42 51 0 (fw_r m0 32 3)) a j = fw_r m0 a j := by
      rw [fg_cp_r]
      by_cases x1 : a = 42 ∧ 0 ≤ j ∧ j < fw_r m0 32 3
      · rw [if_pos x1, oE _ _ (by decide), oD _ _ (by decide), fw_r_k _ (by decide), tT _ _ (by decide) (by decide) (by decide) (Or.inl (by decide)), ← hmC, fg_cp_r, if_pos (by omega), oB _ _ (by decide), oA _ _ (by decide), x1.1]
      · rw [if_neg x1, ← hmE, fg_cp_r]
        by_cases x2 : a = 40 ∧ 0 ≤ j ∧ j < fw_r m0 32 10
        · rw [if_pos x2, oD _ _ (by decide), fw_r_k _ (by decide), tT _ _ (by decide) (by decide) (by decide) (Or.inl (by decide)), oC _ _ (by decide), ← hmB, fg_cp_r, if_pos (by omega), oA _ _ (by decide), x2.1]
        · rw [if_neg x2, ← hmD, fg_cp_r]
          by_cases x3 : a = 33 ∧ 0 ≤ j ∧ j < fw_r m0 32 1
          · rw [if_pos x3, fw_r_k _ (by decide), tT _ _ (by decide) (by decide) (by decide) (Or.inl (by decide)), oC _ _ (by decide), oB _ _ (by decide), ← hmA, fg_cp_r, if_pos (by omega), x3.1]
          · rw [if_neg x3, fw_r_u]
            by_cases x4 : a = 32 ∧ j = 15
            · rw [if_pos x4, x4.1, x4.2]
            · rw [if_neg x4]
              by_cases y1 : a = 33
              · subst y1; rw [ot.2.1 j (by omega), oM _ _ (by decide) (by decide) (by decide)]
              · by_cases y2 : a = 40
                · subst y2; rw [ot.2.2.1 j (by omega), oM _ _ (by decide) (by decide) (by decide)]
                · by_cases y3 : a = 42
                  · subst y3; rw [ot.2.2.2 j (by omega), oM _ _ (by decide) (by decide) (by decide)]
                  · rw [tT a j y1 y2 y3 (by omega), oM a j w1 w2 w3]
    rw [hb, o0 a j w4]
  · rw [fg_cp_o _ _ _ _ _ (by decide), oE _ _ (by decide), oD _ _ (by decide), fw_r_j _ (by decide), tT _ _ (by decide) (by decide) (by decide) (by decide), oM _ _ (by decide) (by decide) (by decide), ← hm0, fw_r_s]
