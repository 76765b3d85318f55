/-! what both are told: the class's (c) beside the reference's (m) -/
def fg_CF (c m : fw_M) : Prop := (fw_ptr c ∧ fg_cok c ∧ fw_r c 11 2 = fw_r m 32 3) ∧ ((4 ≤ fw_r m 32 1 ∧ fw_r m 32 1 ≤ 20) ∧ fw_r c 11 3 = fw_r m 32 1 - 1 ∧ fw_r c 11 4 = fw_r m 32 9 ∧ fw_r c 11 5 = fw_r m 32 7 ∧ fw_r c 11 6 = fw_r m 32 8 ∧ fw_r c 2 5 = fw_r m 32 10) ∧ ((fw_r m 32 7 = 0 ∨ fw_r m 32 7 = 1) ∧ (fw_r m 32 8 = 0 ∨ fw_r m 32 8 = 1) ∧ (1 ≤ fw_r m 32 9 ∧ fw_r m 32 9 ≤ 9) ∧ (0 ≤ fw_r m 32 10 ∧ fw_r m 32 10 ≤ 300)) ∧ (∀ i, 0 ≤ i → i < fw_r m 32 3 → (fw_r c (51 + 3 * i) 0 = fw_r m 34 i ∧ 1 ≤ fw_r m 34 i ∧ fw_r m 34 i ≤ fw_r m 32 1 - 2) ∧ (fw_r c (51 + 3 * i) 2 = fw_r m 35 i ∧ 1 ≤ fw_r m 35 i ∧ fw_r m 35 i ≤ 30) ∧ fw_r c (51 + 3 * i) 3 = fw_r m 36 i ∧ (fw_r m 36 i = 0 ∨ fw_r m 36 i = 1)) ∧ (∀ i j, 0 ≤ i → i < fw_r m 32 3 → 0 ≤ j → j < fw_r m 32 3 → fw_r m 34 i = fw_r m 34 j → i = j) ∧ (∀ p, 0 ≤ p → p < fw_r m 32 10 → fw_r c 3 p = fw_r m 37 p ∧ 0 ≤ fw_r m 37 p ∧ fw_r m 37 p < 8) ∧ (∀ r, 0 ≤ r → r < 8 → fw_r c 13 r = fw_r m 41 r ∧ -1 ≤ fw_r m 41 r ∧ fw_r m 41 r < fw_r m 32 3)
theorem fg_CF_c {c c' m : fw_M} (h : fg_CF c m) (hp : fw_ptr c') (hk : fg_cok c') (h1 : ∀ j, fw_r c' 11 j = fw_r c 11 j) (h2 : fw_r c' 2 5 = fw_r c 2 5) (h3 : ∀ j, fw_r c' 3 j = fw_r c 3 j) (h4 : ∀ j, fw_r c' 13 j = fw_r c 13 j) (h5 : ∀ i j, 0 ≤ i → 0 ≤ j → j < 4 → fw_r c' (51 + 3 * i) j = fw_r c (51 + 3 * i) j) : fg_CF c' m := by
  obtain ⟨⟨a1, a2, a3⟩, ⟨b0, b1, b2, b3, b4, b5⟩, e1, e2, e3, e4, e5⟩ := h
  refine ⟨⟨hp, hk, by rw [h1]; exact a3⟩, ⟨b0, by rw [h1]; exact b1, by rw [h1]; exact b2, by rw [h1]; exact b3, by rw [h1]; exact b4, by rw [h2]; exact b5⟩, e1, fun i hi hi2 => ?_, e3, fun p hp1 hp2 => ?_, fun r hr1 hr2 => ?_⟩
  · rw [h5 i 0 hi (by decide) (by decide), h5 i 2 hi (by decide) (by decide), h5 i 3 hi (by decide) (by decide)]
    exact e2 i hi hi2
  · rw [h3]; exact e4 p hp1 hp2
  · rw [h4]; exact e5 r hr1 hr2
theorem fg_CF_m {c m m' : fw_M} (h : fg_CF c m) (h1 : ∀ j, j ≠ 15 → j ≠ 16 → j ≠ 17 → j ≠ 18 → j ≠ 19 → j ≠ 0 → fw_r m' 32 j = fw_r m 32 j) (h2 : ∀ a j, (a = 34 ∨ a = 35 ∨ a = 36 ∨ a = 37 ∨ a = 41) → fw_r m' a j = fw_r m a j) : fg_CF c m' := by
  have q1 := h1 1 (by decide) (by decide) (by decide) (by decide) (by decide) (by decide)
  have q3 := h1 3 (by decide) (by decide) (by decide) (by decide) (by decide) (by decide)
  have q7 := h1 7 (by decide) (by decide) (by decide) (by decide) (by decide) (by decide)
  have q8 := h1 8 (by decide) (by decide) (by decide) (by decide) (by decide) (by decide)
  have q9 := h1 9 (by decide) (by decide) (by decide) (by decide) (by decide) (by decide)
  have q10 := h1 10 (by decide) (by decide) (by decide) (by decide) (by decide) (by decide)
  have r34 := fun j => h2 34 j (by decide)
  have r35 := fun j => h2 35 j (by decide)
  have r36 := fun j => h2 36 j (by decide)
  have r37 := fun j => h2 37 j (by decide)
  have r41 := fun j => h2 41 j (by decide)
  unfold fg_CF at h ⊢
  simp only [q1, q3, q7, q8, q9, q10, r34, r35, r36, r37, r41]
  exact h
/-- cok through changes that leave the chutes' links alone -/
theorem fg_cok_c {c c' : fw_M} (h : fg_cok c) (h1 : fw_r c' 11 2 = fw_r c 11 2) (h2 : ∀ j, fw_r c' 12 j = fw_r c 12 j) (h3 : ∀ i, 0 ≤ i → fw_r c' (51 + 3 * i) 1 = fw_r c (51 + 3 * i) 1) (h4 : ∀ i, 0 ≤ i → fw_r c' (51 + 3 * i + 1) 0 = fw_r c (51 + 3 * i + 1) 0) : fg_cok c' := by
  obtain ⟨a1, a2, a3⟩ := h
  refine ⟨by rw [h1]; exact a1, by rw [h1]; exact a2, fun i hi hi2 => ?_⟩
  rw [h1] at hi2
  obtain ⟨k1, k2, k3⟩ := a3 i hi hi2
  refine ⟨by rw [h2]; exact k1, ⟨k2.1, ?_⟩, k3.1, k3.2.1, ?_⟩
  · exact (h3 i hi).trans k2.2
  · exact (h4 i hi).trans k3.2.2
/-- whether chute c of the reference takes what stands before it -/
def fg_dv (m : fw_M) (c : Int) : Int := if fw_r m 33 (fw_r m 34 c) ≠ -1 ∧ fw_r m 36 c = 0 ∧ fw_r m 41 (fw_r m 37 (fw_r m 33 (fw_r m 34 c))) = c ∧ fw_r m 42 c < fw_r m 35 c then 1 else 0
def fg_ov (m : fw_M) : Int := if fw_r m 33 (fw_r m 32 1 - 1) ≠ -1 ∧ fw_r m 32 8 = 0 ∧ fw_r m 32 9 ≤ fw_r m 40 (fw_r m 33 (fw_r m 32 1 - 1)) then 1 else 0
def fg_lv (m : fw_M) : Int := if fw_r m 32 7 = 0 ∧ fw_r m 33 0 = -1 ∧ fw_r m 32 15 < fw_r m 32 10 then 1 else 0
theorem fg_dv_01 (m : fw_M) (c : Int) : fg_dv m c = 0 ∨ fg_dv m c = 1 := by unfold fg_dv; split <;> omega
theorem fg_ov_01 (m : fw_M) : fg_ov m = 0 ∨ fg_ov m = 1 := by unfold fg_ov; split <;> omega
theorem fg_lv_01 (m : fw_M) : fg_lv m = 0 ∨ fg_lv m = 1 := by unfold fg_lv; split <;> omega
theorem fg_dv_1 {m : fw_M} {c : Int} (h : fg_dv m c = 1) : fw_r m 33 (fw_r m 34 c) ≠ -1 ∧ fw_r m 36 c = 0 ∧ fw_r m 41 (fw_r m 37 (fw_r m 33 (fw_r m 34 c))) = c ∧ fw_r m 42 c < fw_r m 35 c := by
  unfold fg_dv at h; split at h
  · assumption
  · omega
theorem fg_dv_0 {m : fw_M} {c : Int} (h : fg_dv m c = 0) : ¬(fw_r m 33 (fw_r m 34 c) ≠ -1 ∧ fw_r m 36 c = 0 ∧ fw_r m 41 (fw_r m 37 (fw_r m 33 (fw_r m 34 c))) = c ∧ fw_r m 42 c < fw_r m 35 c) := by
  unfold fg_dv at h; split at h
  · omega
  · assumption
theorem fg_ov_1 {m : fw_M} (h : fg_ov m = 1) : fw_r m 33 (fw_r m 32 1 - 1) ≠ -1 ∧ fw_r m 32 8 = 0 ∧ fw_r m 32 9 ≤ fw_r m 40 (fw_r m 33 (fw_r m 32 1 - 1)) := by
  unfold fg_ov at h; split at h
  · assumption
  · omega
theorem fg_ov_0 {m : fw_M} (h : fg_ov m = 0) : ¬(fw_r m 33 (fw_r m 32 1 - 1) ≠ -1 ∧ fw_r m 32 8 = 0 ∧ fw_r m 32 9 ≤ fw_r m 40 (fw_r m 33 (fw_r m 32 1 - 1))) := by
  unfold fg_ov at h; split at h
  · omega
  · assumption
theorem fg_lv_1 {m : fw_M} (h : fg_lv m = 1) : fw_r m 32 7 = 0 ∧ fw_r m 33 0 = -1 ∧ fw_r m 32 15 < fw_r m 32 10 := by
  unfold fg_lv at h; split at h
  · assumption
  · omega
theorem fg_lv_0 {m : fw_M} (h : fg_lv m = 0) : ¬(fw_r m 32 7 = 0 ∧ fw_r m 33 0 = -1 ∧ fw_r m 32 15 < fw_r m 32 10) := by
  unfold fg_lv at h; split at h
  · omega
  · assumption
/-- the class's test of a chute says the same -/
theorem fg_ct_iff {c m : fw_M} {i p v : Int} (h : fg_CF c m) (h0 : 0 ≤ i) (h1 : i < fw_r m 32 3) (hp : 0 ≤ p ∧ p < fw_r m 32 10) : fg_ct c i (fw_r c 3 p) v ↔ (fw_r m 36 i = 0 ∧ fw_r m 41 (fw_r m 37 p) = i ∧ v < fw_r m 35 i) := by
  obtain ⟨⟨a1, a2, a3⟩, ⟨b0, b1, b2, b3, b4, b5⟩, e1, e2, e3, e4, e5⟩ := h
  obtain ⟨k1, k2, k3, k4⟩ := e2 i h0 h1
  obtain ⟨l1, l2, l3⟩ := e4 p hp.1 hp.2
  have l4 := (e5 _ l2 l3).1
  unfold fg_ct fg_cor
  rw [k3, k2.1, l1, if_pos ⟨l2, l3⟩, l4]
  constructor
  · rintro ⟨x, y, z⟩; exact ⟨x, z, y⟩
  · rintro ⟨x, y, z⟩; exact ⟨x, z, y⟩
theorem fg_ct_no {c : fw_M} {i v : Int} (h0 : 0 ≤ i) : ¬fg_ct c i (-1) v := by
  unfold fg_ct fg_cor
  rw [if_neg (by omega)]
  omega
def fg_tk (m : fw_M) (i p v : Int) : Int := if p ≠ -1 ∧ fw_r m 36 i = 0 ∧ fw_r m 41 (fw_r m 37 p) = i ∧ v < fw_r m 35 i then 1 else 0
theorem fs_takes {c m : fw_M} {i p v : Int} {a4 : fw_V} (h : fg_CF c m) (h0 : 0 ≤ i) (h1 : i < fw_r m 32 3) (hp : -1 ≤ p ∧ p < fw_r m 32 10) (hF : 0 ≤ fw_r c 2 6 ∧ fw_r c 2 6 ≤ fw_r c 2 5) : ∃ r, fw_E 38 0 [(2, 2), (0, p)] [] c = some ((0, r), c) ∧ fw_E 60 0 [(2, 11), (0, i), (0, r), (0, v), a4] [] c = some ((0, fg_tk m i p v), c) := by
  have hh := h
  obtain ⟨⟨a1, a2, a3⟩, ⟨b0, b1, b2, b3, b4, b5⟩, e1, e2, e3, e4, e5⟩ := hh
  have hpk : fg_pok c := by unfold fg_pok; omega
  by_cases hc : p = -1
  · subst hc
    refine ⟨-1, fs_routeAt_f (by omega), ?_⟩
    rw [fs_chuteTakes_f a1 a2 h0 (by omega) (fg_ct_no h0)]
    unfold fg_tk
    rw [if_neg (fun hx => hx.1 rfl)]
  · refine ⟨fw_r c 3 p, fs_routeAt a1 hpk (by omega) (by omega), ?_⟩
    have hi := fg_ct_iff (v := v) h h0 h1 ⟨(by omega : 0 ≤ p), hp.2⟩
    unfold fg_tk
    by_cases ht : fg_ct c i (fw_r c 3 p) v
    · rw [fs_chuteTakes_t a1 a2 h0 (by omega) ht, if_pos ⟨hc, hi.mp ht⟩]
    · rw [fs_chuteTakes_f a1 a2 h0 (by omega) ht, if_neg (fun hx => ht (hi.mpr hx.2))]
theorem fg_tk_01 (m : fw_M) (i p v : Int) : fg_tk m i p v = 0 ∨ fg_tk m i p v = 1 := by unfold fg_tk; split <;> omega
theorem fs_gets_1 {c m : fw_M} {i p : Int} (h : fg_CF c m) (h0 : 0 ≤ i) (h1 : i < fw_r m 32 3) (hp : -1 ≤ p ∧ p < fw_r m 32 10) (hF : 0 ≤ fw_r c 2 6 ∧ fw_r c 2 6 ≤ fw_r c 2 5) (hv : 0 ≤ fw_r c 24 i ∧ fw_r c 24 i ≤ 30) (ht : fg_tk m i p (fw_r c 24 i) = 1) : fw_E 31 0 [(2, 17), (0, i), (0, p)] [] c = some ((0, 1), fw_u c 24 i (fw_r c 24 i + 1)) := by
  obtain ⟨r, q1, q2⟩ := fs_takes (v := fw_r c 24 i) (a4 := (8, 0)) h h0 h1 hp hF
  rw [ht] at q2
  obtain ⟨⟨a1, a2, a3⟩, -⟩ := h
  have a4 := a2.2.1
  simp (disch := first | omega | assumption | (simp (disch := omega) only [fw_w_id, fw_wl_id, fw_r_k, fw_r_j, fw_r_s]; omega) | (simp only [fw_ptr_32_0, fl_ptr_32_0, fw_ptr_32_1, fl_ptr_32_1, fw_ptr_32_2, fw_ptr_32_3, fw_ptr_32_4, fw_ptr_32_5, fl_ptr_32_5, fw_ptr_32_6, fw_ptr_32_7, fw_ptr_32_8, fw_ptr_32_9, fw_ptr_32_10, fl_ptr_32_10, fw_ptr_32_11, fl_ptr_32_11, fw_ptr_32_12, fw_ptr_32_13, fw_ptr_32_14, fw_ptr_32_15, fw_ptr_32_16, fw_ptr_32_17, fl_ptr_32_17, fw_ptr_32_18, fl_ptr_32_18, fw_ptr_32_19, fl_ptr_32_19, fw_ptr_32_20, fl_ptr_32_20, fw_ptr_32_21, fl_ptr_32_21, fw_ptr_32_22, fl_ptr_32_22, fw_ptr_32_23, fw_ptr_32_24, fw_ptr_32_25, fw_ptr_32_26, fw_ptr_32_27, fw_ptr_32_28, fw_ptr_32_29, fw_ptr_32_30, fw_ptr_32_31, fw_ptr_32_32, fw_ptr_32_33, fw_ptr_32_34, fw_ptr_32_35, fw_ptr_1_8, fw_ptr_2_5, fw_ptr_2_6, fw_ptr_2_7, fw_ptr_2_8, fw_ptr_2_9, fw_ptr_8_2, fw_ptr_8_3, fw_ptr_11_2, fw_ptr_11_3, fw_ptr_11_4, fw_ptr_11_5, fw_ptr_11_6, fw_ptr_17_8, fw_ptr_18_2, fw_ptr_18_3, fw_ptr_25_1, fw_ptr_27_2, fw_ptr_28_1, fl_ptr_33, fl_ptr_34, fl_ptr_35, fl_ptr_36, fl_ptr_38, fl_ptr_39, fl_ptr_40, fl_ptr_41, fl_ptr_42, fl_ptr_43, fl_ptr_44, fl_ptr_45, fl_ptr_46, fl_ptr_47, fl_ptr_48, fl_ptr_49, fl_ptr_50, fw_ptr_3, fw_ptr_4, fw_ptr_5, fw_ptr_6, fw_ptr_7, fw_ptr_9, fw_ptr_10, fw_ptr_13, fw_ptr_15, fw_ptr_16, fw_ptr_19, fw_ptr_20, fw_ptr_21, fw_ptr_22, fw_ptr_23, fw_ptr_24, fw_ptr_26, fw_ptr_29, fw_ptr_30, fw_ptr_31, fw_ptr_33, fw_ptr_34, fw_ptr_35, fw_ptr_36, fw_ptr_37, fw_ptr_38, fw_ptr_39, fw_ptr_40, fw_ptr_41, fw_ptr_42, fw_ptr_43, fw_ptr_44, fw_ptr_45, fw_ptr_46, fw_ptr_47, fw_ptr_48, fw_ptr_49, fw_ptr_50, fw_ptr_51, fw_ptr_52, fw_ptr_53, fw_ptr_54, fw_ptr_55, fw_ptr_12, fw_ptr_x, fw_ptr_hi, fw_ptr_b3, fw_ptr_b1, fw_ptr_b2, fw_ptr_b2_, fl_ptr_x, fl_ptr_hi, fl_ptr_lo, fl_ptr_in]; assumption)) only [fw_b_31_0, fw_b_31_4, fw_b_31_10, fw_b_31_12, fw_b_31_25, fw_b_31_34, fw_b_31_39, fw_b_31_49, fw_b_31_37, q1, q2, ↓if_pos, ↓if_neg, if_neg, if_pos, fw_bs, fw_cn_0, fw_cn_1, fw_cn_2, fw_cn_3, fw_cn_4, fw_cn_5, Nat.reduceAdd, fw_w_id, fw_wl_id, fw_r_k, fw_r_j, fw_r_s, fw_r_x, if_true, if_false]
theorem fs_gets_0 {c m : fw_M} {i p : Int} (h : fg_CF c m) (h0 : 0 ≤ i) (h1 : i < fw_r m 32 3) (hp : -1 ≤ p ∧ p < fw_r m 32 10) (hF : 0 ≤ fw_r c 2 6 ∧ fw_r c 2 6 ≤ fw_r c 2 5) (hv : 0 ≤ fw_r c 24 i ∧ fw_r c 24 i ≤ 30) (ht : fg_tk m i p (fw_r c 24 i) = 0) : fw_E 31 0 [(2, 17), (0, i), (0, p)] [] c = some ((0, 0), c) := by
  obtain ⟨r, q1, q2⟩ := fs_takes (v := fw_r c 24 i) (a4 := (8, 0)) h h0 h1 hp hF
  rw [ht] at q2
  obtain ⟨⟨a1, a2, a3⟩, -⟩ := h
  have a4 := a2.2.1
  simp (disch := first | omega | assumption | (simp (disch := omega) only [fw_w_id, fw_wl_id, fw_r_k, fw_r_j, fw_r_s]; omega) | (simp only [fw_ptr_32_0, fl_ptr_32_0, fw_ptr_32_1, fl_ptr_32_1, fw_ptr_32_2, fw_ptr_32_3, fw_ptr_32_4, fw_ptr_32_5, fl_ptr_32_5, fw_ptr_32_6, fw_ptr_32_7, fw_ptr_32_8, fw_ptr_32_9, fw_ptr_32_10, fl_ptr_32_10, fw_ptr_32_11, fl_ptr_32_11, fw_ptr_32_12, fw_ptr_32_13, fw_ptr_32_14, fw_ptr_32_15, fw_ptr_32_16, fw_ptr_32_17, fl_ptr_32_17, fw_ptr_32_18, fl_ptr_32_18, fw_ptr_32_19, fl_ptr_32_19, fw_ptr_32_20, fl_ptr_32_20, fw_ptr_32_21, fl_ptr_32_21, fw_ptr_32_22, fl_ptr_32_22, fw_ptr_32_23, fw_ptr_32_24, fw_ptr_32_25, fw_ptr_32_26, fw_ptr_32_27, fw_ptr_32_28, fw_ptr_32_29, fw_ptr_32_30, fw_ptr_32_31, fw_ptr_32_32, fw_ptr_32_33, fw_ptr_32_34, fw_ptr_32_35, fw_ptr_1_8, fw_ptr_2_5, fw_ptr_2_6, fw_ptr_2_7, fw_ptr_2_8, fw_ptr_2_9, fw_ptr_8_2, fw_ptr_8_3, fw_ptr_11_2, fw_ptr_11_3, fw_ptr_11_4, fw_ptr_11_5, fw_ptr_11_6, fw_ptr_17_8, fw_ptr_18_2, fw_ptr_18_3, fw_ptr_25_1, fw_ptr_27_2, fw_ptr_28_1, fl_ptr_33, fl_ptr_34, fl_ptr_35, fl_ptr_36, fl_ptr_38, fl_ptr_39, fl_ptr_40, fl_ptr_41, fl_ptr_42, fl_ptr_43, fl_ptr_44, fl_ptr_45, fl_ptr_46, fl_ptr_47, fl_ptr_48, fl_ptr_49, fl_ptr_50, fw_ptr_3, fw_ptr_4, fw_ptr_5, fw_ptr_6, fw_ptr_7, fw_ptr_9, fw_ptr_10, fw_ptr_13, fw_ptr_15, fw_ptr_16, fw_ptr_19, fw_ptr_20, fw_ptr_21, fw_ptr_22, fw_ptr_23, fw_ptr_24, fw_ptr_26, fw_ptr_29, fw_ptr_30, fw_ptr_31, fw_ptr_33, fw_ptr_34, fw_ptr_35, fw_ptr_36, fw_ptr_37, fw_ptr_38, fw_ptr_39, fw_ptr_40, fw_ptr_41, fw_ptr_42, fw_ptr_43, fw_ptr_44, fw_ptr_45, fw_ptr_46, fw_ptr_47, fw_ptr_48, fw_ptr_49, fw_ptr_50, fw_ptr_51, fw_ptr_52, fw_ptr_53, fw_ptr_54, fw_ptr_55, fw_ptr_12, fw_ptr_x, fw_ptr_hi, fw_ptr_b3, fw_ptr_b1, fw_ptr_b2, fw_ptr_b2_, fl_ptr_x, fl_ptr_hi, fl_ptr_lo, fl_ptr_in]; assumption)) only [fw_b_31_0, fw_b_31_4, fw_b_31_10, fw_b_31_12, fw_b_31_25, fw_b_31_34, fw_b_31_39, fw_b_31_49, fw_b_31_37, q1, q2, ↓if_pos, ↓if_neg, if_neg, if_pos, fw_bs, fw_cn_0, fw_cn_1, fw_cn_2, fw_cn_3, fw_cn_4, fw_cn_5, Nat.reduceAdd, fw_w_id, fw_wl_id, fw_r_k, fw_r_j, fw_r_s, fw_r_x, if_true, if_false]
theorem fs_gets_no {c : fw_M} {p : Int} : fw_E 31 0 [(2, 17), (0, -1), (0, p)] [] c = some ((0, 0), c) := by
  simp (disch := first | omega | assumption | (simp (disch := omega) only [fw_w_id, fw_wl_id, fw_r_k, fw_r_j, fw_r_s]; omega) | (simp only [fw_ptr_32_0, fl_ptr_32_0, fw_ptr_32_1, fl_ptr_32_1, fw_ptr_32_2, fw_ptr_32_3, fw_ptr_32_4, fw_ptr_32_5, fl_ptr_32_5, fw_ptr_32_6, fw_ptr_32_7, fw_ptr_32_8, fw_ptr_32_9, fw_ptr_32_10, fl_ptr_32_10, fw_ptr_32_11, fl_ptr_32_11, fw_ptr_32_12, fw_ptr_32_13, fw_ptr_32_14, fw_ptr_32_15, fw_ptr_32_16, fw_ptr_32_17, fl_ptr_32_17, fw_ptr_32_18, fl_ptr_32_18, fw_ptr_32_19, fl_ptr_32_19, fw_ptr_32_20, fl_ptr_32_20, fw_ptr_32_21, fl_ptr_32_21, fw_ptr_32_22, fl_ptr_32_22, fw_ptr_32_23, fw_ptr_32_24, fw_ptr_32_25, fw_ptr_32_26, fw_ptr_32_27, fw_ptr_32_28, fw_ptr_32_29, fw_ptr_32_30, fw_ptr_32_31, fw_ptr_32_32, fw_ptr_32_33, fw_ptr_32_34, fw_ptr_32_35, fw_ptr_1_8, fw_ptr_2_5, fw_ptr_2_6, fw_ptr_2_7, fw_ptr_2_8, fw_ptr_2_9, fw_ptr_8_2, fw_ptr_8_3, fw_ptr_11_2, fw_ptr_11_3, fw_ptr_11_4, fw_ptr_11_5, fw_ptr_11_6, fw_ptr_17_8, fw_ptr_18_2, fw_ptr_18_3, fw_ptr_25_1, fw_ptr_27_2, fw_ptr_28_1, fl_ptr_33, fl_ptr_34, fl_ptr_35, fl_ptr_36, fl_ptr_38, fl_ptr_39, fl_ptr_40, fl_ptr_41, fl_ptr_42, fl_ptr_43, fl_ptr_44, fl_ptr_45, fl_ptr_46, fl_ptr_47, fl_ptr_48, fl_ptr_49, fl_ptr_50, fw_ptr_3, fw_ptr_4, fw_ptr_5, fw_ptr_6, fw_ptr_7, fw_ptr_9, fw_ptr_10, fw_ptr_13, fw_ptr_15, fw_ptr_16, fw_ptr_19, fw_ptr_20, fw_ptr_21, fw_ptr_22, fw_ptr_23, fw_ptr_24, fw_ptr_26, fw_ptr_29, fw_ptr_30, fw_ptr_31, fw_ptr_33, fw_ptr_34, fw_ptr_35, fw_ptr_36, fw_ptr_37, fw_ptr_38, fw_ptr_39, fw_ptr_40, fw_ptr_41, fw_ptr_42, fw_ptr_43, fw_ptr_44, fw_ptr_45, fw_ptr_46, fw_ptr_47, fw_ptr_48, fw_ptr_49, fw_ptr_50, fw_ptr_51, fw_ptr_52, fw_ptr_53, fw_ptr_54, fw_ptr_55, fw_ptr_12, fw_ptr_x, fw_ptr_hi, fw_ptr_b3, fw_ptr_b1, fw_ptr_b2, fw_ptr_b2_, fl_ptr_x, fl_ptr_hi, fl_ptr_lo, fl_ptr_in]; assumption)) only [fw_b_31_0, fw_b_31_4, fw_b_31_10, fw_b_31_12, fw_b_31_25, fw_b_31_34, fw_b_31_39, fw_b_31_49, fw_b_31_37, ↓if_pos, ↓if_neg, if_neg, if_pos, fw_bs, fw_cn_0, fw_cn_1, fw_cn_2, fw_cn_3, fw_cn_4, fw_cn_5, Nat.reduceAdd, fw_w_id, fw_wl_id, fw_r_k, fw_r_j, fw_r_s, fw_r_x, if_true, if_false]
theorem fg_dv_tk (m : fw_M) (i : Int) : fg_dv m i = fg_tk m i (fw_r m 33 (fw_r m 34 i)) (fw_r m 42 i) := rfl
/-! the reference's look ahead, piece by piece -/
def fg_lc (m : fw_M) (c : Int) : fw_M := if fg_dv m c = 1 then fw_u (fw_u m 33 (fw_r m 34 c) (-1)) 42 c (fw_r m 42 c + 1) else m
def fg_lcn (m : fw_M) : Int → Nat → fw_M
  | _, 0 => m
  | i, k + 1 => fg_lcn (fg_lc m i) (i + 1) k
def fg_lcs (m : fw_M) : Int → Nat → Int
  | _, 0 => 0
  | i, k + 1 => fg_dv m i + fg_lcs (fg_lc m i) (i + 1) k
def fg_lo (m : fw_M) : fw_M := if fg_ov m = 1 then fw_u m 33 (fw_r m 32 1 - 1) (-1) else m
def fg_ll (m : fw_M) : fw_M := if fg_lv m = 1 then fw_u (fw_u m 33 0 (fw_r m 32 15)) 32 15 (fw_r m 32 15 + 1) else m
