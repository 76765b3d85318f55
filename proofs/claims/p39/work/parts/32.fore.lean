/-! the class's two looks ahead, whole -/
theorem fs_begin_lp {a0 : Int} : ∀ (k : Nat) (i : Int) (c : fw_M) (a2 : fw_V), i + k = 6 → 0 ≤ i → fw_ptr c → fg_cok c → ∃ c', fw_E 27 13 [(2, 17), (0, i), a2] [] c = some ((5, 0), c') ∧ fw_ptr c' ∧ (∀ a j, a ≠ 24 → fw_r c' a j = fw_r c a j) ∧ (∀ j, j < i → fw_r c' 24 j = fw_r c 24 j) ∧ (∀ j, i ≤ j → j < fw_r c 11 2 → fw_r c' 24 j = fw_r c (51 + 3 * j + 1) 1) := by
  intro k
  induction k with
  | zero =>
    intro i c a2 h0 h1 hp hk
    refine ⟨c, ?_, hp, fun _ _ _ => rfl, fun _ _ => rfl, fun j a b => by have := hk.2.1; omega⟩
    simp (disch := first | omega | assumption | (simp (disch := omega) only [fw_w_id, fw_wl_id, fw_r_k, fw_r_j, fw_r_s]; omega) | (simp only [fw_ptr_32_0, fl_ptr_32_0, fw_ptr_32_1, fl_ptr_32_1, fw_ptr_32_2, fw_ptr_32_3, fw_ptr_32_4, fw_ptr_32_5, fl_ptr_32_5, fw_ptr_32_6, fw_ptr_32_7, fw_ptr_32_8, fw_ptr_32_9, fw_ptr_32_10, fl_ptr_32_10, fw_ptr_32_11, fl_ptr_32_11, fw_ptr_32_12, fw_ptr_32_13, fw_ptr_32_14, fw_ptr_32_15, fw_ptr_32_16, fw_ptr_32_17, fl_ptr_32_17, fw_ptr_32_18, fl_ptr_32_18, fw_ptr_32_19, fl_ptr_32_19, fw_ptr_32_20, fl_ptr_32_20, fw_ptr_32_21, fl_ptr_32_21, fw_ptr_32_22, fl_ptr_32_22, fw_ptr_32_23, fw_ptr_32_24, fw_ptr_32_25, fw_ptr_32_26, fw_ptr_32_27, fw_ptr_32_28, fw_ptr_32_29, fw_ptr_32_30, fw_ptr_32_31, fw_ptr_32_32, fw_ptr_32_33, fw_ptr_32_34, fw_ptr_32_35, fw_ptr_1_8, fw_ptr_2_5, fw_ptr_2_6, fw_ptr_2_7, fw_ptr_2_8, fw_ptr_2_9, fw_ptr_8_2, fw_ptr_8_3, fw_ptr_11_2, fw_ptr_11_3, fw_ptr_11_4, fw_ptr_11_5, fw_ptr_11_6, fw_ptr_17_8, fw_ptr_18_2, fw_ptr_18_3, fw_ptr_25_1, fw_ptr_27_2, fw_ptr_28_1, fl_ptr_33, fl_ptr_34, fl_ptr_35, fl_ptr_36, fl_ptr_38, fl_ptr_39, fl_ptr_40, fl_ptr_41, fl_ptr_42, fl_ptr_43, fl_ptr_44, fl_ptr_45, fl_ptr_46, fl_ptr_47, fl_ptr_48, fl_ptr_49, fl_ptr_50, fw_ptr_3, fw_ptr_4, fw_ptr_5, fw_ptr_6, fw_ptr_7, fw_ptr_9, fw_ptr_10, fw_ptr_13, fw_ptr_15, fw_ptr_16, fw_ptr_19, fw_ptr_20, fw_ptr_21, fw_ptr_22, fw_ptr_23, fw_ptr_24, fw_ptr_26, fw_ptr_29, fw_ptr_30, fw_ptr_31, fw_ptr_33, fw_ptr_34, fw_ptr_35, fw_ptr_36, fw_ptr_37, fw_ptr_38, fw_ptr_39, fw_ptr_40, fw_ptr_41, fw_ptr_42, fw_ptr_43, fw_ptr_44, fw_ptr_45, fw_ptr_46, fw_ptr_47, fw_ptr_48, fw_ptr_49, fw_ptr_50, fw_ptr_51, fw_ptr_52, fw_ptr_53, fw_ptr_54, fw_ptr_55, fw_ptr_12, fw_ptr_x, fw_ptr_hi, fw_ptr_b3, fw_ptr_b1, fw_ptr_b2, fw_ptr_b2_, fl_ptr_x, fl_ptr_hi, fl_ptr_lo, fl_ptr_in]; assumption)) only [fw_b_27_13, fw_b_27_55, ↓if_pos, ↓if_neg, if_neg, if_pos, fw_bs, fw_cn_0, fw_cn_1, fw_cn_2, fw_cn_3, fw_cn_4, fw_cn_5, Nat.reduceAdd, fw_w_id, fw_wl_id, fw_r_k, fw_r_j, fw_r_s, fw_r_x, if_true, if_false]
  | succ k ih =>
    intro i c a2 h0 h1 hp hk
    have hn := hk.2.1
    have key : ∀ v, (i < fw_r c 11 2 → v = fw_r c (51 + 3 * i + 1) 1) → ∀ x2 : Int, (∀ X, fw_E 27 49 [(2, 17), (0, i), (2, x2)] [] (fw_u c 24 i v) = X → fw_E 27 13 [(2, 17), (0, i), a2] [] c = X) → ∃ c', fw_E 27 13 [(2, 17), (0, i), a2] [] c = some ((5, 0), c') ∧ fw_ptr c' ∧ (∀ a j, a ≠ 24 → fw_r c' a j = fw_r c a j) ∧ (∀ j, j < i → fw_r c' 24 j = fw_r c 24 j) ∧ (∀ j, i ≤ j → j < fw_r c 11 2 → fw_r c' 24 j = fw_r c (51 + 3 * j + 1) 1) := by
      intro v hv x2 hX
      have hp2 : fw_ptr (fw_u c 24 i v) := by rw [fw_ptr_24]; exact hp
      have hk2 : fg_cok (fw_u c 24 i v) := fg_cok_c hk (fw_r_k _ (by decide)) (fun j => fw_r_k _ (by decide)) (fun j hj => fw_r_k _ (by omega)) (fun j hj => fw_r_k _ (by omega))
      obtain ⟨c', e1, e2, e3, e4, e5⟩ := ih (i + 1) (fw_u c 24 i v) (2, x2) (by omega) (by omega) hp2 hk2
      refine ⟨c', hX _ ?_, e2, fun a j ha => ?_, fun j hj => ?_, fun j a b => ?_⟩
      · rw [fw_b_27_49, fw_w_id (by omega) (by omega)]; exact e1
      · rw [e3 a j ha, fw_r_k _ ha]
      · rw [e4 j (by omega), fw_r_j _ (by omega)]
      · by_cases hj : j = i
        · subst hj
          rw [e4 j (by omega), fw_r_s]; exact hv b
        · rw [e5 j (by omega) (by rw [fw_r_k _ (by decide)]; exact b), fw_r_k _ (by omega)]
    by_cases hc : i < fw_r c 11 2
    · have hi := hk.2.2 i h1 hc
      have hcw := hi.2.1
      have hrw := hi.2.2
      refine key _ (fun _ => rfl) (51 + 3 * i) (fun X hX => ?_)
      rw [← hX]
      simp (disch := first | assumption | first | omega | assumption | (simp (disch := omega) only [fw_w_id, fw_wl_id, fw_r_k, fw_r_j, fw_r_s]; omega) | (simp only [fw_ptr_32_0, fl_ptr_32_0, fw_ptr_32_1, fl_ptr_32_1, fw_ptr_32_2, fw_ptr_32_3, fw_ptr_32_4, fw_ptr_32_5, fl_ptr_32_5, fw_ptr_32_6, fw_ptr_32_7, fw_ptr_32_8, fw_ptr_32_9, fw_ptr_32_10, fl_ptr_32_10, fw_ptr_32_11, fl_ptr_32_11, fw_ptr_32_12, fw_ptr_32_13, fw_ptr_32_14, fw_ptr_32_15, fw_ptr_32_16, fw_ptr_32_17, fl_ptr_32_17, fw_ptr_32_18, fl_ptr_32_18, fw_ptr_32_19, fl_ptr_32_19, fw_ptr_32_20, fl_ptr_32_20, fw_ptr_32_21, fl_ptr_32_21, fw_ptr_32_22, fl_ptr_32_22, fw_ptr_32_23, fw_ptr_32_24, fw_ptr_32_25, fw_ptr_32_26, fw_ptr_32_27, fw_ptr_32_28, fw_ptr_32_29, fw_ptr_32_30, fw_ptr_32_31, fw_ptr_32_32, fw_ptr_32_33, fw_ptr_32_34, fw_ptr_32_35, fw_ptr_1_8, fw_ptr_2_5, fw_ptr_2_6, fw_ptr_2_7, fw_ptr_2_8, fw_ptr_2_9, fw_ptr_8_2, fw_ptr_8_3, fw_ptr_11_2, fw_ptr_11_3, fw_ptr_11_4, fw_ptr_11_5, fw_ptr_11_6, fw_ptr_17_8, fw_ptr_18_2, fw_ptr_18_3, fw_ptr_25_1, fw_ptr_27_2, fw_ptr_28_1, fl_ptr_33, fl_ptr_34, fl_ptr_35, fl_ptr_36, fl_ptr_38, fl_ptr_39, fl_ptr_40, fl_ptr_41, fl_ptr_42, fl_ptr_43, fl_ptr_44, fl_ptr_45, fl_ptr_46, fl_ptr_47, fl_ptr_48, fl_ptr_49, fl_ptr_50, fw_ptr_3, fw_ptr_4, fw_ptr_5, fw_ptr_6, fw_ptr_7, fw_ptr_9, fw_ptr_10, fw_ptr_13, fw_ptr_15, fw_ptr_16, fw_ptr_19, fw_ptr_20, fw_ptr_21, fw_ptr_22, fw_ptr_23, fw_ptr_24, fw_ptr_26, fw_ptr_29, fw_ptr_30, fw_ptr_31, fw_ptr_33, fw_ptr_34, fw_ptr_35, fw_ptr_36, fw_ptr_37, fw_ptr_38, fw_ptr_39, fw_ptr_40, fw_ptr_41, fw_ptr_42, fw_ptr_43, fw_ptr_44, fw_ptr_45, fw_ptr_46, fw_ptr_47, fw_ptr_48, fw_ptr_49, fw_ptr_50, fw_ptr_51, fw_ptr_52, fw_ptr_53, fw_ptr_54, fw_ptr_55, fw_ptr_12, fw_ptr_x, fw_ptr_hi, fw_ptr_b3, fw_ptr_b1, fw_ptr_b2, fw_ptr_b2_, fl_ptr_x, fl_ptr_hi, fl_ptr_lo, fl_ptr_in]; assumption)) only [fw_b_27_13, fw_b_27_19, fw_b_27_27, fw_b_27_37, fs_chute, ↓if_pos, ↓if_neg, fw_bs, fw_cn_2, Nat.reduceAdd]
    · refine key 0 (fun h => absurd h hc) 0 (fun X hX => ?_)
      rw [← hX]
      simp (disch := first | assumption | first | omega | assumption | (simp (disch := omega) only [fw_w_id, fw_wl_id, fw_r_k, fw_r_j, fw_r_s]; omega) | (simp only [fw_ptr_32_0, fl_ptr_32_0, fw_ptr_32_1, fl_ptr_32_1, fw_ptr_32_2, fw_ptr_32_3, fw_ptr_32_4, fw_ptr_32_5, fl_ptr_32_5, fw_ptr_32_6, fw_ptr_32_7, fw_ptr_32_8, fw_ptr_32_9, fw_ptr_32_10, fl_ptr_32_10, fw_ptr_32_11, fl_ptr_32_11, fw_ptr_32_12, fw_ptr_32_13, fw_ptr_32_14, fw_ptr_32_15, fw_ptr_32_16, fw_ptr_32_17, fl_ptr_32_17, fw_ptr_32_18, fl_ptr_32_18, fw_ptr_32_19, fl_ptr_32_19, fw_ptr_32_20, fl_ptr_32_20, fw_ptr_32_21, fl_ptr_32_21, fw_ptr_32_22, fl_ptr_32_22, fw_ptr_32_23, fw_ptr_32_24, fw_ptr_32_25, fw_ptr_32_26, fw_ptr_32_27, fw_ptr_32_28, fw_ptr_32_29, fw_ptr_32_30, fw_ptr_32_31, fw_ptr_32_32, fw_ptr_32_33, fw_ptr_32_34, fw_ptr_32_35, fw_ptr_1_8, fw_ptr_2_5, fw_ptr_2_6, fw_ptr_2_7, fw_ptr_2_8, fw_ptr_2_9, fw_ptr_8_2, fw_ptr_8_3, fw_ptr_11_2, fw_ptr_11_3, fw_ptr_11_4, fw_ptr_11_5, fw_ptr_11_6, fw_ptr_17_8, fw_ptr_18_2, fw_ptr_18_3, fw_ptr_25_1, fw_ptr_27_2, fw_ptr_28_1, fl_ptr_33, fl_ptr_34, fl_ptr_35, fl_ptr_36, fl_ptr_38, fl_ptr_39, fl_ptr_40, fl_ptr_41, fl_ptr_42, fl_ptr_43, fl_ptr_44, fl_ptr_45, fl_ptr_46, fl_ptr_47, fl_ptr_48, fl_ptr_49, fl_ptr_50, fw_ptr_3, fw_ptr_4, fw_ptr_5, fw_ptr_6, fw_ptr_7, fw_ptr_9, fw_ptr_10, fw_ptr_13, fw_ptr_15, fw_ptr_16, fw_ptr_19, fw_ptr_20, fw_ptr_21, fw_ptr_22, fw_ptr_23, fw_ptr_24, fw_ptr_26, fw_ptr_29, fw_ptr_30, fw_ptr_31, fw_ptr_33, fw_ptr_34, fw_ptr_35, fw_ptr_36, fw_ptr_37, fw_ptr_38, fw_ptr_39, fw_ptr_40, fw_ptr_41, fw_ptr_42, fw_ptr_43, fw_ptr_44, fw_ptr_45, fw_ptr_46, fw_ptr_47, fw_ptr_48, fw_ptr_49, fw_ptr_50, fw_ptr_51, fw_ptr_52, fw_ptr_53, fw_ptr_54, fw_ptr_55, fw_ptr_12, fw_ptr_x, fw_ptr_hi, fw_ptr_b3, fw_ptr_b1, fw_ptr_b2, fw_ptr_b2_, fl_ptr_x, fl_ptr_hi, fl_ptr_lo, fl_ptr_in]; assumption)) only [fw_b_27_13, fw_b_27_19, fw_b_27_27, fw_b_27_47, fs_chute_f, ↓if_pos, ↓if_neg, fw_bs, fw_cn_2, Nat.reduceAdd]
theorem fs_begin {c : fw_M} {a1 a2 : fw_V} (hp : fw_ptr c) (hk : fg_cok c) : ∃ c', fw_E 27 0 [(2, 17), a1, a2] [] c = some ((5, 0), c') ∧ fw_ptr c' ∧ (∀ a j, a ≠ 24 → (a ≠ 17 ∨ j ≠ 8) → fw_r c' a j = fw_r c a j) ∧ fw_r c' 17 8 = fw_r c 2 6 ∧ (∀ j, 0 ≤ j → j < fw_r c 11 2 → fw_r c' 24 j = fw_r c (51 + 3 * j + 1) 1) := by
  have hp2 : fw_ptr (fw_u c 17 8 (fw_r c 2 6)) := by rw [fw_ptr_17_8]; exact hp
  have hk2 : fg_cok (fw_u c 17 8 (fw_r c 2 6)) := fg_cok_c hk (fw_r_k _ (by decide)) (fun j => fw_r_k _ (by decide)) (fun j hj => fw_r_k _ (by omega)) (fun j hj => fw_r_k _ (by omega))
  obtain ⟨c', e1, e2, e3, e4, e5⟩ := fs_begin_lp (a0 := 0) 6 0 (fw_u c 17 8 (fw_r c 2 6)) a2 (by decide) (by decide) hp2 hk2
  refine ⟨c', ?_, e2, fun a j h1 h2 => ?_, ?_, fun j a b => ?_⟩
  · rw [fw_b_27_0 _ _ _ hp, fw_b_27_11, e1]
  · rw [e3 a j h1, fw_r_u, if_neg (by omega)]
  · rw [e3 17 8 (by decide), fw_r_s]
  · rw [e5 j a (by rw [fw_r_k _ (by decide)]; exact b), fw_r_k _ (by omega)]
theorem fs_copy_lp : ∀ (k : Nat) (i : Int) (c : fw_M), i + k = 20 → 0 ≤ i → fw_ptr c → ∃ c', fw_E 3 18 [(2, 18), (2, 8), (0, i)] [] c = some ((5, 0), c') ∧ fw_ptr c' ∧ (∀ a j, a ≠ 19 → a ≠ 20 → fw_r c' a j = fw_r c a j) ∧ (∀ j, j < i → fw_r c' 19 j = fw_r c 19 j ∧ fw_r c' 20 j = fw_r c 20 j) ∧ (∀ j, i ≤ j → j < 20 → fw_r c' 19 j = fw_r c 9 j ∧ fw_r c' 20 j = fw_r c 10 j) := by
  intro k
  induction k with
  | zero =>
    intro i c h0 h1 hp
    refine ⟨c, ?_, hp, fun _ _ _ _ => rfl, fun _ _ => ⟨rfl, rfl⟩, fun j a b => by omega⟩
    simp (disch := first | omega | assumption | (simp (disch := omega) only [fw_w_id, fw_wl_id, fw_r_k, fw_r_j, fw_r_s]; omega) | (simp only [fw_ptr_32_0, fl_ptr_32_0, fw_ptr_32_1, fl_ptr_32_1, fw_ptr_32_2, fw_ptr_32_3, fw_ptr_32_4, fw_ptr_32_5, fl_ptr_32_5, fw_ptr_32_6, fw_ptr_32_7, fw_ptr_32_8, fw_ptr_32_9, fw_ptr_32_10, fl_ptr_32_10, fw_ptr_32_11, fl_ptr_32_11, fw_ptr_32_12, fw_ptr_32_13, fw_ptr_32_14, fw_ptr_32_15, fw_ptr_32_16, fw_ptr_32_17, fl_ptr_32_17, fw_ptr_32_18, fl_ptr_32_18, fw_ptr_32_19, fl_ptr_32_19, fw_ptr_32_20, fl_ptr_32_20, fw_ptr_32_21, fl_ptr_32_21, fw_ptr_32_22, fl_ptr_32_22, fw_ptr_32_23, fw_ptr_32_24, fw_ptr_32_25, fw_ptr_32_26, fw_ptr_32_27, fw_ptr_32_28, fw_ptr_32_29, fw_ptr_32_30, fw_ptr_32_31, fw_ptr_32_32, fw_ptr_32_33, fw_ptr_32_34, fw_ptr_32_35, fw_ptr_1_8, fw_ptr_2_5, fw_ptr_2_6, fw_ptr_2_7, fw_ptr_2_8, fw_ptr_2_9, fw_ptr_8_2, fw_ptr_8_3, fw_ptr_11_2, fw_ptr_11_3, fw_ptr_11_4, fw_ptr_11_5, fw_ptr_11_6, fw_ptr_17_8, fw_ptr_18_2, fw_ptr_18_3, fw_ptr_25_1, fw_ptr_27_2, fw_ptr_28_1, fl_ptr_33, fl_ptr_34, fl_ptr_35, fl_ptr_36, fl_ptr_38, fl_ptr_39, fl_ptr_40, fl_ptr_41, fl_ptr_42, fl_ptr_43, fl_ptr_44, fl_ptr_45, fl_ptr_46, fl_ptr_47, fl_ptr_48, fl_ptr_49, fl_ptr_50, fw_ptr_3, fw_ptr_4, fw_ptr_5, fw_ptr_6, fw_ptr_7, fw_ptr_9, fw_ptr_10, fw_ptr_13, fw_ptr_15, fw_ptr_16, fw_ptr_19, fw_ptr_20, fw_ptr_21, fw_ptr_22, fw_ptr_23, fw_ptr_24, fw_ptr_26, fw_ptr_29, fw_ptr_30, fw_ptr_31, fw_ptr_33, fw_ptr_34, fw_ptr_35, fw_ptr_36, fw_ptr_37, fw_ptr_38, fw_ptr_39, fw_ptr_40, fw_ptr_41, fw_ptr_42, fw_ptr_43, fw_ptr_44, fw_ptr_45, fw_ptr_46, fw_ptr_47, fw_ptr_48, fw_ptr_49, fw_ptr_50, fw_ptr_51, fw_ptr_52, fw_ptr_53, fw_ptr_54, fw_ptr_55, fw_ptr_12, fw_ptr_x, fw_ptr_hi, fw_ptr_b3, fw_ptr_b1, fw_ptr_b2, fw_ptr_b2_, fl_ptr_x, fl_ptr_hi, fl_ptr_lo, fl_ptr_in]; assumption)) only [fw_b_3_18, fw_b_3_54, ↓if_pos, ↓if_neg, if_neg, if_pos, fw_bs, fw_cn_0, fw_cn_1, fw_cn_2, fw_cn_3, fw_cn_4, fw_cn_5, Nat.reduceAdd, fw_w_id, fw_wl_id, fw_r_k, fw_r_j, fw_r_s, fw_r_x, if_true, if_false]
  | succ k ih =>
    intro i c h0 h1 hp
    have hp2 : fw_ptr (fw_u c 19 i (fw_r c 9 i)) := by rw [fw_ptr_19]; exact hp
    have hp3 : fw_ptr (fw_u (fw_u c 19 i (fw_r c 9 i)) 20 i (fw_r c 10 i)) := by rw [fw_ptr_20]; exact hp2
    obtain ⟨c', e1, e2, e3, e4, e5⟩ := ih (i + 1) (fw_u (fw_u c 19 i (fw_r c 9 i)) 20 i (fw_r c 10 i)) (by omega) (by omega) hp3
    refine ⟨c', ?_, e2, fun a j ha hb => ?_, fun j hj => ?_, fun j a b => ?_⟩
    · have b1 := fw_b_3_24 c 18 i (Or.inr rfl) hp h1 (by omega)
      have b2 := fw_b_3_36 (fw_u c 19 i (fw_r c 9 i)) 18 i (Or.inr rfl) hp2 h1 (by omega)
      rw [fw_r_k _ (by decide)] at b2
      rw [fw_b_3_18, if_pos (by omega), b1]
      show fw_E 3 36 [(2, 18), (2, 8), (0, i)] [] (fw_u c 19 i (fw_r c 9 i)) = _
      rw [b2]
      show fw_E 3 48 [(2, 18), (2, 8), (0, i)] [] (fw_u (fw_u c 19 i (fw_r c 9 i)) 20 i (fw_r c 10 i)) = _
      rw [fw_b_3_48, fw_w_id (by omega) (by omega), e1]
    · rw [e3 a j ha hb, fw_r_k _ hb, fw_r_k _ ha]
    · rw [(e4 j (by omega)).1, (e4 j (by omega)).2, fw_r_k _ (by decide), fw_r_j _ (by omega), fw_r_j _ (by omega), fw_r_k _ (by decide)]
      exact ⟨rfl, rfl⟩
    · by_cases hj : j = i
      · subst hj
        rw [(e4 j (by omega)).1, (e4 j (by omega)).2, fw_r_k _ (by decide), fw_r_s, fw_r_s]; exact ⟨rfl, rfl⟩
      · have := e5 j (by omega) b
        rw [fw_r_k _ (by decide), fw_r_k _ (by decide), fw_r_k _ (by decide), fw_r_k _ (by decide)] at this
        exact this
theorem fs_copy {c : fw_M} {a2 : fw_V} (hp : fw_ptr c) : ∃ c', fw_E 3 0 [(2, 18), (2, 8), a2] [] c = some ((5, 0), c') ∧ fw_ptr c' ∧ (∀ a j, a ≠ 19 → a ≠ 20 → (a ≠ 18 ∨ (j ≠ 2 ∧ j ≠ 3)) → fw_r c' a j = fw_r c a j) ∧ fw_r c' 18 2 = fw_r c 8 2 ∧ fw_r c' 18 3 = fw_r c 8 3 ∧ (∀ j, 0 ≤ j → j < 20 → fw_r c' 19 j = fw_r c 9 j ∧ fw_r c' 20 j = fw_r c 10 j) := by
  have hp2 : fw_ptr (fw_u (fw_u c 18 2 (fw_r c 8 2)) 18 3 (fw_r c 8 3)) := by rw [fw_ptr_18_3, fw_ptr_18_2]; exact hp
  obtain ⟨c', e1, e2, e3, e4, e5⟩ := fs_copy_lp 20 0 (fw_u (fw_u c 18 2 (fw_r c 8 2)) 18 3 (fw_r c 8 3)) (by decide) (by decide) hp2
  refine ⟨c', ?_, e2, fun a j h1 h2 h3 => ?_, ?_, ?_, fun j a b => ?_⟩
  · rw [fw_b_3_0 _ _ _ (Or.inr rfl), fw_b_3_8 _ _ _ (Or.inr rfl), fw_r_k _ (by decide), fw_b_3_16, e1]
  · rw [e3 a j h1 h2, fw_r_u, if_neg (by omega), fw_r_u, if_neg (by omega)]
  · rw [e3 18 2 (by decide) (by decide), fw_r_j _ (by decide), fw_r_s]
  · rw [e3 18 3 (by decide) (by decide), fw_r_s]
  · have := e5 j a b
    rw [fw_r_k _ (by decide), fw_r_k _ (by decide), fw_r_k _ (by decide), fw_r_k _ (by decide)] at this
    exact this
/-- the class and the reference stand alike, as far as looks ahead go -/
def fg_MN (M : Int) (c m : fw_M) : Prop := fg_CF c m ∧ fg_RB 8 M c m ∧ fg_ML M m ∧ fw_r c 2 6 = fw_r m 32 15 ∧ (∀ i, 0 ≤ i → i < fw_r m 32 3 → fw_r c (51 + 3 * i + 1) 1 = fw_r m 42 i)
/-! tray by tray -/
theorem fs_byOrigin_lp {x : Int} : ∀ (k : Nat) (i acc M : Int) (c m : fw_M), 0 ≤ M → M + k ≤ 1000000000 → fg_LK M c m → fg_ML M m → 0 ≤ i → i + k = x → x ≤ 200 → 0 ≤ acc → acc ≤ 7 * i → ∃ c', fw_E 25 19 [(2, 17), (0, x), (0, acc), (0, i)] [] c = some ((0, acc + fg_Cn k m), c') ∧ fg_FR c c' ∧ fw_ptr c' := by
  intro k
  induction k with
  | zero =>
    intro i acc M c m h0 hM h hm h1 h2 h3 h4 h5
    refine ⟨c, ?_, fg_FR_refl c, h.1.1.1⟩
    rw [fg_Cn, Int.add_zero]
    simp (disch := first | omega | assumption | (simp (disch := omega) only [fw_w_id, fw_wl_id, fw_r_k, fw_r_j, fw_r_s]; omega) | (simp only [fw_ptr_32_0, fl_ptr_32_0, fw_ptr_32_1, fl_ptr_32_1, fw_ptr_32_2, fw_ptr_32_3, fw_ptr_32_4, fw_ptr_32_5, fl_ptr_32_5, fw_ptr_32_6, fw_ptr_32_7, fw_ptr_32_8, fw_ptr_32_9, fw_ptr_32_10, fl_ptr_32_10, fw_ptr_32_11, fl_ptr_32_11, fw_ptr_32_12, fw_ptr_32_13, fw_ptr_32_14, fw_ptr_32_15, fw_ptr_32_16, fw_ptr_32_17, fl_ptr_32_17, fw_ptr_32_18, fl_ptr_32_18, fw_ptr_32_19, fl_ptr_32_19, fw_ptr_32_20, fl_ptr_32_20, fw_ptr_32_21, fl_ptr_32_21, fw_ptr_32_22, fl_ptr_32_22, fw_ptr_32_23, fw_ptr_32_24, fw_ptr_32_25, fw_ptr_32_26, fw_ptr_32_27, fw_ptr_32_28, fw_ptr_32_29, fw_ptr_32_30, fw_ptr_32_31, fw_ptr_32_32, fw_ptr_32_33, fw_ptr_32_34, fw_ptr_32_35, fw_ptr_1_8, fw_ptr_2_5, fw_ptr_2_6, fw_ptr_2_7, fw_ptr_2_8, fw_ptr_2_9, fw_ptr_8_2, fw_ptr_8_3, fw_ptr_11_2, fw_ptr_11_3, fw_ptr_11_4, fw_ptr_11_5, fw_ptr_11_6, fw_ptr_17_8, fw_ptr_18_2, fw_ptr_18_3, fw_ptr_25_1, fw_ptr_27_2, fw_ptr_28_1, fl_ptr_33, fl_ptr_34, fl_ptr_35, fl_ptr_36, fl_ptr_38, fl_ptr_39, fl_ptr_40, fl_ptr_41, fl_ptr_42, fl_ptr_43, fl_ptr_44, fl_ptr_45, fl_ptr_46, fl_ptr_47, fl_ptr_48, fl_ptr_49, fl_ptr_50, fw_ptr_3, fw_ptr_4, fw_ptr_5, fw_ptr_6, fw_ptr_7, fw_ptr_9, fw_ptr_10, fw_ptr_13, fw_ptr_15, fw_ptr_16, fw_ptr_19, fw_ptr_20, fw_ptr_21, fw_ptr_22, fw_ptr_23, fw_ptr_24, fw_ptr_26, fw_ptr_29, fw_ptr_30, fw_ptr_31, fw_ptr_33, fw_ptr_34, fw_ptr_35, fw_ptr_36, fw_ptr_37, fw_ptr_38, fw_ptr_39, fw_ptr_40, fw_ptr_41, fw_ptr_42, fw_ptr_43, fw_ptr_44, fw_ptr_45, fw_ptr_46, fw_ptr_47, fw_ptr_48, fw_ptr_49, fw_ptr_50, fw_ptr_51, fw_ptr_52, fw_ptr_53, fw_ptr_54, fw_ptr_55, fw_ptr_12, fw_ptr_x, fw_ptr_hi, fw_ptr_b3, fw_ptr_b1, fw_ptr_b2, fw_ptr_b2_, fl_ptr_x, fl_ptr_hi, fl_ptr_lo, fl_ptr_in]; assumption)) only [fw_b_25_19, fw_b_25_37, ↓if_pos, ↓if_neg, if_neg, if_pos, fw_bs, fw_cn_0, fw_cn_1, fw_cn_2, fw_cn_3, fw_cn_4, fw_cn_5, Nat.reduceAdd, fw_w_id, fw_wl_id, fw_r_k, fw_r_j, fw_r_s, fw_r_x, if_true, if_false]
  | succ k ih =>
    intro i acc M c m h0 hM h hm h1 h2 h3 h4 h5
    obtain ⟨c1, q1, q2, q3, q4⟩ := fs_moveOrigin (a1 := (8, 0)) (a2 := (8, 0)) (a3 := (8, 0)) h0 (by omega) h
    obtain ⟨e1, e2⟩ := fg_T12 hm
    rw [e1] at q2
    rw [e2] at q1 q4
    obtain ⟨c2, r1, r2, r3⟩ := ih (i + 1) (acc + fg_C2 m) (M + 1) c1 (fg_T2 m) (by omega) (by omega) q2 (fg_ML_T2 hm) (by omega) (by omega) h3 (by omega) (by omega)
    refine ⟨c2, ?_, fg_FR_trans q3 r2, r3⟩
    rw [fg_Cn, ← Int.add_assoc, ← r1]
    simp (disch := first | omega | assumption | (simp (disch := omega) only [fw_w_id, fw_wl_id, fw_r_k, fw_r_j, fw_r_s]; omega) | (simp only [fw_ptr_32_0, fl_ptr_32_0, fw_ptr_32_1, fl_ptr_32_1, fw_ptr_32_2, fw_ptr_32_3, fw_ptr_32_4, fw_ptr_32_5, fl_ptr_32_5, fw_ptr_32_6, fw_ptr_32_7, fw_ptr_32_8, fw_ptr_32_9, fw_ptr_32_10, fl_ptr_32_10, fw_ptr_32_11, fl_ptr_32_11, fw_ptr_32_12, fw_ptr_32_13, fw_ptr_32_14, fw_ptr_32_15, fw_ptr_32_16, fw_ptr_32_17, fl_ptr_32_17, fw_ptr_32_18, fl_ptr_32_18, fw_ptr_32_19, fl_ptr_32_19, fw_ptr_32_20, fl_ptr_32_20, fw_ptr_32_21, fl_ptr_32_21, fw_ptr_32_22, fl_ptr_32_22, fw_ptr_32_23, fw_ptr_32_24, fw_ptr_32_25, fw_ptr_32_26, fw_ptr_32_27, fw_ptr_32_28, fw_ptr_32_29, fw_ptr_32_30, fw_ptr_32_31, fw_ptr_32_32, fw_ptr_32_33, fw_ptr_32_34, fw_ptr_32_35, fw_ptr_1_8, fw_ptr_2_5, fw_ptr_2_6, fw_ptr_2_7, fw_ptr_2_8, fw_ptr_2_9, fw_ptr_8_2, fw_ptr_8_3, fw_ptr_11_2, fw_ptr_11_3, fw_ptr_11_4, fw_ptr_11_5, fw_ptr_11_6, fw_ptr_17_8, fw_ptr_18_2, fw_ptr_18_3, fw_ptr_25_1, fw_ptr_27_2, fw_ptr_28_1, fl_ptr_33, fl_ptr_34, fl_ptr_35, fl_ptr_36, fl_ptr_38, fl_ptr_39, fl_ptr_40, fl_ptr_41, fl_ptr_42, fl_ptr_43, fl_ptr_44, fl_ptr_45, fl_ptr_46, fl_ptr_47, fl_ptr_48, fl_ptr_49, fl_ptr_50, fw_ptr_3, fw_ptr_4, fw_ptr_5, fw_ptr_6, fw_ptr_7, fw_ptr_9, fw_ptr_10, fw_ptr_13, fw_ptr_15, fw_ptr_16, fw_ptr_19, fw_ptr_20, fw_ptr_21, fw_ptr_22, fw_ptr_23, fw_ptr_24, fw_ptr_26, fw_ptr_29, fw_ptr_30, fw_ptr_31, fw_ptr_33, fw_ptr_34, fw_ptr_35, fw_ptr_36, fw_ptr_37, fw_ptr_38, fw_ptr_39, fw_ptr_40, fw_ptr_41, fw_ptr_42, fw_ptr_43, fw_ptr_44, fw_ptr_45, fw_ptr_46, fw_ptr_47, fw_ptr_48, fw_ptr_49, fw_ptr_50, fw_ptr_51, fw_ptr_52, fw_ptr_53, fw_ptr_54, fw_ptr_55, fw_ptr_12, fw_ptr_x, fw_ptr_hi, fw_ptr_b3, fw_ptr_b1, fw_ptr_b2, fw_ptr_b2_, fl_ptr_x, fl_ptr_hi, fl_ptr_lo, fl_ptr_in]; assumption)) only [fw_b_25_19, fw_b_25_24, q1, fw_b_25_29, ↓if_pos, ↓if_neg, if_neg, if_pos, fw_bs, fw_cn_0, fw_cn_1, fw_cn_2, fw_cn_3, fw_cn_4, fw_cn_5, Nat.reduceAdd, fw_w_id, fw_wl_id, fw_r_k, fw_r_j, fw_r_s, fw_r_x, if_true, if_false]
theorem fs_byOrigin {M x : Int} {c m : fw_M} {a2 a3 : fw_V} (h : fg_MN M c m) (h0 : 0 ≤ M) (hM : M ≤ 1000000) (hx : 1 ≤ x ∧ x ≤ 200) : ∃ c', fw_E 25 0 [(2, 17), (0, x), a2, a3] [] c = some ((0, fg_Cn x.toNat m), c') ∧ fg_FR c c' ∧ fw_ptr c' := by
  obtain ⟨h1, h2, h3, h4, h5⟩ := h
  have hp := h1.1.1
  have hk := h1.1.2.1
  have hn := h1.1.2.2
  have hN := h3.1.2.2.1
  obtain ⟨c1, b1, b2, b3, b4, b5⟩ := fs_begin (a1 := (8, 0)) (a2 := (8, 0)) hp hk
  obtain ⟨c2, d1, d2, d3, d4, d5, d6⟩ := fs_copy (a2 := (8, 0)) b2
  have fr1 : fg_FR c c1 := fun a j ha => b3 a j (by omega) (by omega)
  have fr2 : fg_FR c c2 := fun a j ha => (d3 a j (by omega) (by omega) (by omega)).trans (fr1 a j ha)
  have o9 : ∀ j, fw_r c1 9 j = fw_r c 9 j := fun j => b3 9 j (by decide) (by omega)
  have o10 : ∀ j, fw_r c1 10 j = fw_r c 10 j := fun j => b3 10 j (by decide) (by omega)
  have o82 : fw_r c2 18 2 = fw_r c 8 2 := d4.trans (b3 8 2 (by decide) (by decide))
  have o83 : fw_r c2 18 3 = fw_r c 8 3 := d5.trans (b3 8 3 (by decide) (by decide))
  have hsl : ∀ p, fg_slot c2 18 p = fg_slot c 8 p := fun p => by unfold fg_slot; rw [o82, o83]
  have hLK : fg_LK M c2 m := by
    refine ⟨fg_CF_FR h1 d2 fr2, ⟨?_, ?_, fun p a b => ?_, fun j a b => ?_⟩, h3.2.1, ?_, ?_, fun i a b => ?_⟩
    · have := h2.1; unfold fg_bok at this ⊢; rw [o82, o83]; exact this
    · rw [o82]; exact h2.2.1
    · have hs := fg_slot_in h2.1 a (by rw [h2.2.1]; exact b)
      have hs2 := h2.1.2.1
      have hq := d6 (fg_slot c 8 p) hs.1 (by omega)
      have e1 : fg_tr c2 18 p = fg_tr c 8 p := by unfold fg_tr; rw [hsl]; exact hq.1.trans (o9 _)
      have e2 : fg_rd c2 18 p = fg_rd c 8 p := by unfold fg_rd; rw [hsl]; exact hq.2.trans (o10 _)
      rw [e1, e2]; exact h2.2.2.1 p a b
    · have e := ((d6 j a (by omega)).2).trans (o10 j)
      show 0 ≤ fw_r c2 20 j ∧ fw_r c2 20 j ≤ M
      rw [e]; exact h2.2.2.2 j a b
    · rw [d3 17 8 (by decide) (by decide) (by decide), b4]; exact h4
    · rw [fr2 2 6 (by decide), fr2 2 5 (by decide), h1.2.1.2.2.2.2.2, h4]
      have := h3.2.1.2.1; omega
    · rw [d3 24 i (by decide) (by decide) (by omega), b5 i a (by omega), h5 i a b]
      have := h3.2.2.1 i a b
      exact ⟨rfl, this⟩
  obtain ⟨c3, e1, e2, e3⟩ := fs_byOrigin_lp (x := x) x.toNat 0 0 M c2 m h0 (by omega) hLK h3 (by decide) (by omega) hx.2 (by decide) (by decide)
  refine ⟨c3, ?_, fg_FR_trans fr2 e2, e3⟩
  simp (disch := first | omega | assumption | (simp (disch := omega) only [fw_w_id, fw_wl_id, fw_r_k, fw_r_j, fw_r_s]; omega) | (simp only [fw_ptr_32_0, fl_ptr_32_0, fw_ptr_32_1, fl_ptr_32_1, fw_ptr_32_2, fw_ptr_32_3, fw_ptr_32_4, fw_ptr_32_5, fl_ptr_32_5, fw_ptr_32_6, fw_ptr_32_7, fw_ptr_32_8, fw_ptr_32_9, fw_ptr_32_10, fl_ptr_32_10, fw_ptr_32_11, fl_ptr_32_11, fw_ptr_32_12, fw_ptr_32_13, fw_ptr_32_14, fw_ptr_32_15, fw_ptr_32_16, fw_ptr_32_17, fl_ptr_32_17, fw_ptr_32_18, fl_ptr_32_18, fw_ptr_32_19, fl_ptr_32_19, fw_ptr_32_20, fl_ptr_32_20, fw_ptr_32_21, fl_ptr_32_21, fw_ptr_32_22, fl_ptr_32_22, fw_ptr_32_23, fw_ptr_32_24, fw_ptr_32_25, fw_ptr_32_26, fw_ptr_32_27, fw_ptr_32_28, fw_ptr_32_29, fw_ptr_32_30, fw_ptr_32_31, fw_ptr_32_32, fw_ptr_32_33, fw_ptr_32_34, fw_ptr_32_35, fw_ptr_1_8, fw_ptr_2_5, fw_ptr_2_6, fw_ptr_2_7, fw_ptr_2_8, fw_ptr_2_9, fw_ptr_8_2, fw_ptr_8_3, fw_ptr_11_2, fw_ptr_11_3, fw_ptr_11_4, fw_ptr_11_5, fw_ptr_11_6, fw_ptr_17_8, fw_ptr_18_2, fw_ptr_18_3, fw_ptr_25_1, fw_ptr_27_2, fw_ptr_28_1, fl_ptr_33, fl_ptr_34, fl_ptr_35, fl_ptr_36, fl_ptr_38, fl_ptr_39, fl_ptr_40, fl_ptr_41, fl_ptr_42, fl_ptr_43, fl_ptr_44, fl_ptr_45, fl_ptr_46, fl_ptr_47, fl_ptr_48, fl_ptr_49, fl_ptr_50, fw_ptr_3, fw_ptr_4, fw_ptr_5, fw_ptr_6, fw_ptr_7, fw_ptr_9, fw_ptr_10, fw_ptr_13, fw_ptr_15, fw_ptr_16, fw_ptr_19, fw_ptr_20, fw_ptr_21, fw_ptr_22, fw_ptr_23, fw_ptr_24, fw_ptr_26, fw_ptr_29, fw_ptr_30, fw_ptr_31, fw_ptr_33, fw_ptr_34, fw_ptr_35, fw_ptr_36, fw_ptr_37, fw_ptr_38, fw_ptr_39, fw_ptr_40, fw_ptr_41, fw_ptr_42, fw_ptr_43, fw_ptr_44, fw_ptr_45, fw_ptr_46, fw_ptr_47, fw_ptr_48, fw_ptr_49, fw_ptr_50, fw_ptr_51, fw_ptr_52, fw_ptr_53, fw_ptr_54, fw_ptr_55, fw_ptr_12, fw_ptr_x, fw_ptr_hi, fw_ptr_b3, fw_ptr_b1, fw_ptr_b2, fw_ptr_b2_, fl_ptr_x, fl_ptr_hi, fl_ptr_lo, fl_ptr_in]; assumption)) only [fw_b_25_0, b1, fw_b_25_4, d1, fw_b_25_15, fw_bs, fw_cn_5, Nat.reduceAdd]
  rw [e1, Int.zero_add]
