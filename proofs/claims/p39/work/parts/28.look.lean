/-! the class's look ahead on a copied belt -/
def fg_LK (M : Int) (c m : fw_M) : Prop := fg_CF c m ∧ fg_RB 18 M c m ∧ fg_TR m ∧ fw_r c 17 8 = fw_r m 32 15 ∧ (0 ≤ fw_r c 2 6 ∧ fw_r c 2 6 ≤ fw_r c 2 5) ∧ (∀ i, 0 ≤ i → i < fw_r m 32 3 → fw_r c 24 i = fw_r m 42 i ∧ 0 ≤ fw_r m 42 i ∧ fw_r m 42 i ≤ 30)
def fg_FR (c c' : fw_M) : Prop := ∀ a j, (a < 17 ∨ 24 < a) → fw_r c' a j = fw_r c a j
theorem fg_FR_refl (c : fw_M) : fg_FR c c := fun a j h => rfl
theorem fg_FR_trans {a b c : fw_M} (h : fg_FR a b) (h2 : fg_FR b c) : fg_FR a c := fun x j hx => (h2 x j hx).trans (h x j hx)
theorem fg_FR_u {c c' : fw_M} (h : fg_FR c c') {k j v : Int} (hk : 17 ≤ k) (hk2 : k ≤ 24) : fg_FR c (fw_u c' k j v) := fun a b ha => by rw [fw_r_k _ (by omega)]; exact h a b ha
theorem fg_FR_put {c c' : fw_M} (h : fg_FR c c') {p v : Int} : fg_FR c (fg_put c' 18 p v) := fun a b ha => by rw [fg_put_o _ _ _ _ (by omega) (by omega)]; exact h a b ha
theorem fg_FR_mv {c c' : fw_M} (h : fg_FR c c') : fg_FR c (fg_mv c' 18) := fun a b ha => by rw [fg_mv_o _ _ (by omega) (by omega)]; exact h a b ha
theorem fg_CF_FR {c c' m : fw_M} (h : fg_CF c m) (hp : fw_ptr c') (hf : fg_FR c c') : fg_CF c' m :=
  fg_CF_c h hp (fg_cok_c h.1.2.1 (hf _ _ (by decide)) (fun j => hf _ _ (by decide)) (fun i hi => hf _ _ (by omega)) (fun i hi => hf _ _ (by omega))) (fun j => hf _ _ (by decide)) (hf _ _ (by decide)) (fun j => hf _ _ (by decide)) (fun j => hf _ _ (by decide)) (fun i j hi _ _ => hf _ _ (by omega))
theorem fg_CF_mvs {c m : fw_M} (h : fg_CF c m) : fg_CF c (fg_mvs m) :=
  fg_CF_m h (fun j _ _ _ _ _ _ => fg_mvs_o m (by decide) (by decide)) (fun a j ha => fg_mvs_o m (by omega) (by omega))
theorem fg_CF_33 {c m : fw_M} {p v : Int} (h : fg_CF c m) : fg_CF c (fw_u m 33 p v) :=
  fg_CF_m h (fun j _ _ _ _ _ _ => fw_r_k _ (by decide)) (fun a j ha => fw_r_k _ (by omega))
theorem fg_CF_42 {c m : fw_M} {p v : Int} (h : fg_CF c m) : fg_CF c (fw_u m 42 p v) :=
  fg_CF_m h (fun j _ _ _ _ _ _ => fw_r_k _ (by decide)) (fun a j ha => fw_r_k _ (by omega))
theorem fg_CF_15 {c m : fw_M} {v : Int} (h : fg_CF c m) : fg_CF c (fw_u m 32 15 v) :=
  fg_CF_m h (fun j h1 _ _ _ _ _ => fw_r_j _ h1) (fun a j ha => fw_r_k _ (by omega))
theorem fs_lk_move {M : Int} {c m : fw_M} (h : fg_LK M c m) (hM : M ≤ 1000000000) : fw_E 6 0 [(2, 18), (8, 0)] [] c = some ((5, 0), fg_mv c 18) ∧ fg_LK (M + 1) (fg_mv c 18) (fg_mvs m) ∧ fg_FR c (fg_mv c 18) := by
  obtain ⟨h1, h2, h3, h4, h5, h6⟩ := h
  have hp := h1.1.1
  have fr := fg_FR_mv (fg_FR_refl c)
  refine ⟨fs_move (Or.inr rfl) hp h2.1 (fun j a d => ?_), ⟨fg_CF_mvs (fg_CF_FR h1 (fg_mv_ptr (Or.inr rfl) hp) fr), fg_RB_mvs h2 h3, fg_TR_mvs h3, ?_, ?_, ?_⟩, fr⟩
  · have := h2.2.2.2 j a (by rw [← h2.2.1]; exact d)
    exact ⟨this.1, Int.le_trans this.2 (by omega)⟩
  · rw [fg_mv_o _ _ (by decide) (by decide), fg_mvs_o _ (by decide) (by decide)]; exact h4
  · rw [fr 2 6 (by decide), fr 2 5 (by decide)]; exact h5
  · intro i a d
    rw [fg_mvs_o _ (by decide) (by decide)] at d
    rw [fg_mv_o _ _ (by decide) (by decide), fg_mvs_o _ (by decide) (by decide)]
    exact h6 i a d
theorem fs_lk_load {M : Int} {c m : fw_M} {a1 a2 a3 : fw_V} (hM : 0 ≤ M) (h : fg_LK M c m) : ∃ c', fw_E 28 7 [(2, 17), a1, a2, a3] [] c = fw_E 28 58 [(2, 17), a1, a2, a3] [] c' ∧ fg_LK M c' (fg_ll m) ∧ fg_FR c c' := by
  have h0 := h
  obtain ⟨h1, h2, h3, h4, h5, h6⟩ := h
  have hp := h1.1.1
  have hN := h3.1
  have t0 := h2.2.2.1 0 (by omega) (by omega)
  have e1 : fw_E 7 0 [(2, 18), (0, 0), (8, 0)] [] c = some ((0, fw_r m 33 0), c) := by
    rw [fs_parcelAt (Or.inr rfl) hp h2.1 (by omega) (by rw [h2.2.1]; omega), t0.1]
  have e5 := h1.2.1.2.2.2.1
  have e10 := h1.2.1.2.2.2.2.2
  have hiff : fg_lp c (fw_r m 33 0) (fw_r c 17 8) (fw_r c 2 5) ↔ (fw_r m 32 7 = 0 ∧ fw_r m 33 0 = -1 ∧ fw_r m 32 15 < fw_r m 32 10) := by
    unfold fg_lp; rw [e5, h4, e10]
  rcases fg_lv_01 m with hl | hl
  · have hn : ¬fg_lp c (fw_r m 33 0) (fw_r c 17 8) (fw_r c 2 5) := fun hx => fg_lv_0 hl (hiff.mp hx)
    refine ⟨c, ?_, ?_, fg_FR_refl c⟩
    · simp (disch := first | omega | assumption | (simp (disch := omega) only [fw_w_id, fw_wl_id, fw_r_k, fw_r_j, fw_r_s]; omega) | (simp only [fw_ptr_32_0, fl_ptr_32_0, fw_ptr_32_1, fl_ptr_32_1, fw_ptr_32_2, fw_ptr_32_3, fw_ptr_32_4, fw_ptr_32_5, fl_ptr_32_5, fw_ptr_32_6, fw_ptr_32_7, fw_ptr_32_8, fw_ptr_32_9, fw_ptr_32_10, fl_ptr_32_10, fw_ptr_32_11, fl_ptr_32_11, fw_ptr_32_12, fw_ptr_32_13, fw_ptr_32_14, fw_ptr_32_15, fw_ptr_32_16, fw_ptr_32_17, fl_ptr_32_17, fw_ptr_32_18, fl_ptr_32_18, fw_ptr_32_19, fl_ptr_32_19, fw_ptr_32_20, fl_ptr_32_20, fw_ptr_32_21, fl_ptr_32_21, fw_ptr_32_22, fl_ptr_32_22, fw_ptr_32_23, fw_ptr_32_24, fw_ptr_32_25, fw_ptr_32_26, fw_ptr_32_27, fw_ptr_32_28, fw_ptr_32_29, fw_ptr_32_30, fw_ptr_32_31, fw_ptr_32_32, fw_ptr_32_33, fw_ptr_32_34, fw_ptr_32_35, fw_ptr_1_8, fw_ptr_2_5, fw_ptr_2_6, fw_ptr_2_7, fw_ptr_2_8, fw_ptr_2_9, fw_ptr_8_2, fw_ptr_8_3, fw_ptr_11_2, fw_ptr_11_3, fw_ptr_11_4, fw_ptr_11_5, fw_ptr_11_6, fw_ptr_17_8, fw_ptr_18_2, fw_ptr_18_3, fw_ptr_25_1, fw_ptr_27_2, fw_ptr_28_1, fl_ptr_33, fl_ptr_34, fl_ptr_35, fl_ptr_36, fl_ptr_38, fl_ptr_39, fl_ptr_40, fl_ptr_41, fl_ptr_42, fl_ptr_43, fl_ptr_44, fl_ptr_45, fl_ptr_46, fl_ptr_47, fl_ptr_48, fl_ptr_49, fl_ptr_50, fw_ptr_3, fw_ptr_4, fw_ptr_5, fw_ptr_6, fw_ptr_7, fw_ptr_9, fw_ptr_10, fw_ptr_13, fw_ptr_15, fw_ptr_16, fw_ptr_19, fw_ptr_20, fw_ptr_21, fw_ptr_22, fw_ptr_23, fw_ptr_24, fw_ptr_26, fw_ptr_29, fw_ptr_30, fw_ptr_31, fw_ptr_33, fw_ptr_34, fw_ptr_35, fw_ptr_36, fw_ptr_37, fw_ptr_38, fw_ptr_39, fw_ptr_40, fw_ptr_41, fw_ptr_42, fw_ptr_43, fw_ptr_44, fw_ptr_45, fw_ptr_46, fw_ptr_47, fw_ptr_48, fw_ptr_49, fw_ptr_50, fw_ptr_51, fw_ptr_52, fw_ptr_53, fw_ptr_54, fw_ptr_55, fw_ptr_12, fw_ptr_x, fw_ptr_hi, fw_ptr_b3, fw_ptr_b1, fw_ptr_b2, fw_ptr_b2_, fl_ptr_x, fl_ptr_hi, fl_ptr_lo, fl_ptr_in]; assumption)) only [fw_b_28_7, fw_b_28_19, fw_b_28_33, e1, fs_loaderPuts_f, ↓if_pos, ↓if_neg, if_neg, if_pos, fw_bs, fw_cn_0, fw_cn_1, fw_cn_2, fw_cn_3, fw_cn_4, fw_cn_5, Nat.reduceAdd, fw_w_id, fw_wl_id, fw_r_k, fw_r_j, fw_r_s, fw_r_x, if_true, if_false]
    · unfold fg_ll; rw [if_neg (by omega)]; exact h0
  · have hy : fg_lp c (fw_r m 33 0) (fw_r c 17 8) (fw_r c 2 5) := hiff.mpr (fg_lv_1 hl)
    have hq := fg_lv_1 hl
    have hF := h3.2.1
    refine ⟨fw_u (fg_put c 18 0 (fw_r m 32 15)) 17 8 (fw_r m 32 15 + 1), ?_, ?_, fg_FR_u (fg_FR_put (fg_FR_refl c)) (by decide) (by decide)⟩
    · have hq8 : fw_r (fg_put c 18 0 (fw_r m 32 15)) 17 8 = fw_r m 32 15 := by rw [fg_put_o _ _ _ _ (by decide) (by decide), h4]
      have ep : fw_E 10 0 [(2, 18), (0, 0), (0, fw_r c 17 8), (8, 0)] [] c = some ((5, 0), fg_put c 18 0 (fw_r m 32 15)) := by
        rw [h4]; exact fs_put (Or.inr rfl) hp h2.1 (by omega) (by rw [h2.2.1]; omega)
      simp (disch := first | omega | assumption | (simp (disch := omega) only [fw_w_id, fw_wl_id, fw_r_k, fw_r_j, fw_r_s]; omega) | (simp only [fw_ptr_32_0, fl_ptr_32_0, fw_ptr_32_1, fl_ptr_32_1, fw_ptr_32_2, fw_ptr_32_3, fw_ptr_32_4, fw_ptr_32_5, fl_ptr_32_5, fw_ptr_32_6, fw_ptr_32_7, fw_ptr_32_8, fw_ptr_32_9, fw_ptr_32_10, fl_ptr_32_10, fw_ptr_32_11, fl_ptr_32_11, fw_ptr_32_12, fw_ptr_32_13, fw_ptr_32_14, fw_ptr_32_15, fw_ptr_32_16, fw_ptr_32_17, fl_ptr_32_17, fw_ptr_32_18, fl_ptr_32_18, fw_ptr_32_19, fl_ptr_32_19, fw_ptr_32_20, fl_ptr_32_20, fw_ptr_32_21, fl_ptr_32_21, fw_ptr_32_22, fl_ptr_32_22, fw_ptr_32_23, fw_ptr_32_24, fw_ptr_32_25, fw_ptr_32_26, fw_ptr_32_27, fw_ptr_32_28, fw_ptr_32_29, fw_ptr_32_30, fw_ptr_32_31, fw_ptr_32_32, fw_ptr_32_33, fw_ptr_32_34, fw_ptr_32_35, fw_ptr_1_8, fw_ptr_2_5, fw_ptr_2_6, fw_ptr_2_7, fw_ptr_2_8, fw_ptr_2_9, fw_ptr_8_2, fw_ptr_8_3, fw_ptr_11_2, fw_ptr_11_3, fw_ptr_11_4, fw_ptr_11_5, fw_ptr_11_6, fw_ptr_17_8, fw_ptr_18_2, fw_ptr_18_3, fw_ptr_25_1, fw_ptr_27_2, fw_ptr_28_1, fl_ptr_33, fl_ptr_34, fl_ptr_35, fl_ptr_36, fl_ptr_38, fl_ptr_39, fl_ptr_40, fl_ptr_41, fl_ptr_42, fl_ptr_43, fl_ptr_44, fl_ptr_45, fl_ptr_46, fl_ptr_47, fl_ptr_48, fl_ptr_49, fl_ptr_50, fw_ptr_3, fw_ptr_4, fw_ptr_5, fw_ptr_6, fw_ptr_7, fw_ptr_9, fw_ptr_10, fw_ptr_13, fw_ptr_15, fw_ptr_16, fw_ptr_19, fw_ptr_20, fw_ptr_21, fw_ptr_22, fw_ptr_23, fw_ptr_24, fw_ptr_26, fw_ptr_29, fw_ptr_30, fw_ptr_31, fw_ptr_33, fw_ptr_34, fw_ptr_35, fw_ptr_36, fw_ptr_37, fw_ptr_38, fw_ptr_39, fw_ptr_40, fw_ptr_41, fw_ptr_42, fw_ptr_43, fw_ptr_44, fw_ptr_45, fw_ptr_46, fw_ptr_47, fw_ptr_48, fw_ptr_49, fw_ptr_50, fw_ptr_51, fw_ptr_52, fw_ptr_53, fw_ptr_54, fw_ptr_55, fw_ptr_12, fw_ptr_x, fw_ptr_hi, fw_ptr_b3, fw_ptr_b1, fw_ptr_b2, fw_ptr_b2_, fl_ptr_x, fl_ptr_hi, fl_ptr_lo, fl_ptr_in]; assumption)) only [fw_b_28_7, fw_b_28_19, fw_b_28_33, fw_b_28_36, fw_b_28_48, e1, ep, hq8, fs_loaderPuts_t, ↓if_pos, ↓if_neg, if_neg, if_pos, fw_bs, fw_cn_0, fw_cn_1, fw_cn_2, fw_cn_3, fw_cn_4, fw_cn_5, Nat.reduceAdd, fw_w_id, fw_wl_id, fw_r_k, fw_r_j, fw_r_s, fw_r_x, if_true, if_false]
    · unfold fg_ll; rw [if_pos hl]
      have fr : fg_FR c (fw_u (fg_put c 18 0 (fw_r m 32 15)) 17 8 (fw_r m 32 15 + 1)) := fg_FR_u (fg_FR_put (fg_FR_refl c)) (by decide) (by decide)
      have hp2 : fw_ptr (fw_u (fg_put c 18 0 (fw_r m 32 15)) 17 8 (fw_r m 32 15 + 1)) := by rw [fw_ptr_17_8]; exact fg_put_ptr (Or.inr rfl) hp
      refine ⟨fg_CF_15 (fg_CF_33 (fg_CF_FR h1 hp2 fr)), ?_, fg_TR_load h3 hq.2.2, ?_, ?_, ?_⟩
      · refine fg_RB_c (fg_RB_load hM h2 h3 hq.2.2) (fun j => fw_r_k _ (by decide)) (fun j => fw_r_k _ (by decide)) (fun j => fw_r_k _ (by decide))
      · rw [fw_r_s, fw_r_s]
      · rw [fr 2 6 (by decide), fr 2 5 (by decide)]; exact h5
      · intro i a d
        rw [fw_r_j _ (by decide), fw_r_k _ (by decide)] at d
        rw [fw_r_k _ (by decide), fg_put_o _ _ _ _ (by decide) (by decide), fw_r_k _ (by decide), fw_r_k _ (by decide)]
        exact h6 i a d
theorem fg_lc_n (m : fw_M) (i j : Int) (h : j ≠ 33) (h2 : j ≠ 42) (k : Int) : fw_r (fg_lc m i) j k = fw_r m j k := by
  unfold fg_lc; split
  · rw [fw_r_k _ h2, fw_r_k _ h]
  · rfl
theorem fs_lk_chute {M : Int} {c m : fw_M} {i acc : Int} {a3 : fw_V} (hM : 0 ≤ M) (h : fg_LK M c m) (h0 : 0 ≤ i) (hi : i < fw_r m 32 3) (ha : 0 ≤ acc ∧ acc ≤ 100) : ∃ c' a3', fw_E 28 62 [(2, 17), (0, acc), (0, i), a3] [] c = fw_E 28 62 [(2, 17), (0, acc + fg_dv m i), (0, i + 1), a3'] [] c' ∧ fg_LK M c' (fg_lc m i) ∧ fg_FR c c' := by
  have hh := h
  obtain ⟨h1, h2, h3, h4, h5, h6⟩ := h
  have hcf := h1
  obtain ⟨⟨a1, a2, a3'⟩, ⟨b0, b1, b2, b3, b4, b5⟩, e1, e2, e3, e4, e5⟩ := h1
  have hn := a2.2.1
  have hch := fs_chute a1 a2 h0 (by omega)
  have hcw := (a2.2.2 i h0 (by omega)).2.1
  obtain ⟨⟨p1, p2, p3⟩, -⟩ := e2 i h0 hi
  have tp := h2.2.2.1 (fw_r m 34 i) (by omega) (by omega)
  have ht := h3.2.2.1 (fw_r m 34 i) (by omega) (by omega)
  have ep : fw_E 7 0 [(2, 18), (0, fw_r c (51 + 3 * i) 0), (8, 0)] [] c = some ((0, fw_r m 33 (fw_r m 34 i)), c) := by
    rw [p1, fs_parcelAt (Or.inr rfl) a1 h2.1 (by omega) (by rw [h2.2.1]; omega), tp.1]
  obtain ⟨q1, q2, q3⟩ := h6 i h0 hi
  have hF := h3.2.1
  have hdt := fg_dv_tk m i
  rw [← q1] at hdt
  rcases fg_dv_01 m i with hd | hd
  · have hg := fs_gets_0 hcf h0 hi (p := fw_r m 33 (fw_r m 34 i)) (by omega) h5 (by omega) (by rw [← hdt]; exact hd)
    refine ⟨c, (2, 51 + 3 * i), ?_, ?_, fg_FR_refl c⟩
    · rw [hd, fw_b_28_62]
      simp (disch := first | omega | assumption | (simp (disch := omega) only [fw_w_id, fw_wl_id, fw_r_k, fw_r_j, fw_r_s]; omega) | (simp only [fw_ptr_32_0, fl_ptr_32_0, fw_ptr_32_1, fl_ptr_32_1, fw_ptr_32_2, fw_ptr_32_3, fw_ptr_32_4, fw_ptr_32_5, fl_ptr_32_5, fw_ptr_32_6, fw_ptr_32_7, fw_ptr_32_8, fw_ptr_32_9, fw_ptr_32_10, fl_ptr_32_10, fw_ptr_32_11, fl_ptr_32_11, fw_ptr_32_12, fw_ptr_32_13, fw_ptr_32_14, fw_ptr_32_15, fw_ptr_32_16, fw_ptr_32_17, fl_ptr_32_17, fw_ptr_32_18, fl_ptr_32_18, fw_ptr_32_19, fl_ptr_32_19, fw_ptr_32_20, fl_ptr_32_20, fw_ptr_32_21, fl_ptr_32_21, fw_ptr_32_22, fl_ptr_32_22, fw_ptr_32_23, fw_ptr_32_24, fw_ptr_32_25, fw_ptr_32_26, fw_ptr_32_27, fw_ptr_32_28, fw_ptr_32_29, fw_ptr_32_30, fw_ptr_32_31, fw_ptr_32_32, fw_ptr_32_33, fw_ptr_32_34, fw_ptr_32_35, fw_ptr_1_8, fw_ptr_2_5, fw_ptr_2_6, fw_ptr_2_7, fw_ptr_2_8, fw_ptr_2_9, fw_ptr_8_2, fw_ptr_8_3, fw_ptr_11_2, fw_ptr_11_3, fw_ptr_11_4, fw_ptr_11_5, fw_ptr_11_6, fw_ptr_17_8, fw_ptr_18_2, fw_ptr_18_3, fw_ptr_25_1, fw_ptr_27_2, fw_ptr_28_1, fl_ptr_33, fl_ptr_34, fl_ptr_35, fl_ptr_36, fl_ptr_38, fl_ptr_39, fl_ptr_40, fl_ptr_41, fl_ptr_42, fl_ptr_43, fl_ptr_44, fl_ptr_45, fl_ptr_46, fl_ptr_47, fl_ptr_48, fl_ptr_49, fl_ptr_50, fw_ptr_3, fw_ptr_4, fw_ptr_5, fw_ptr_6, fw_ptr_7, fw_ptr_9, fw_ptr_10, fw_ptr_13, fw_ptr_15, fw_ptr_16, fw_ptr_19, fw_ptr_20, fw_ptr_21, fw_ptr_22, fw_ptr_23, fw_ptr_24, fw_ptr_26, fw_ptr_29, fw_ptr_30, fw_ptr_31, fw_ptr_33, fw_ptr_34, fw_ptr_35, fw_ptr_36, fw_ptr_37, fw_ptr_38, fw_ptr_39, fw_ptr_40, fw_ptr_41, fw_ptr_42, fw_ptr_43, fw_ptr_44, fw_ptr_45, fw_ptr_46, fw_ptr_47, fw_ptr_48, fw_ptr_49, fw_ptr_50, fw_ptr_51, fw_ptr_52, fw_ptr_53, fw_ptr_54, fw_ptr_55, fw_ptr_12, fw_ptr_x, fw_ptr_hi, fw_ptr_b3, fw_ptr_b1, fw_ptr_b2, fw_ptr_b2_, fl_ptr_x, fl_ptr_hi, fl_ptr_lo, fl_ptr_in]; assumption)) only [fw_b_28_68, fw_b_28_76, fw_b_28_81, fw_b_28_94, fw_b_28_97, fw_b_28_114, hch, ep, hg, ↓if_pos, ↓if_neg, if_neg, if_pos, fw_bs, fw_cn_0, fw_cn_1, fw_cn_2, fw_cn_3, fw_cn_4, fw_cn_5, Nat.reduceAdd, fw_w_id, fw_wl_id, fw_r_k, fw_r_j, fw_r_s, fw_r_x, if_true, if_false, Int.add_zero]
    · unfold fg_lc; rw [if_neg (by omega)]; exact hh
  · have hg := fs_gets_1 hcf h0 hi (p := fw_r m 33 (fw_r m 34 i)) (by omega) h5 (by omega) (by rw [← hdt]; exact hd)
    have hp2 : fw_ptr (fw_u c 24 i (fw_r c 24 i + 1)) := by rw [fw_ptr_24]; exact a1
    have hcw2 : fw_chw (fw_u c 24 i (fw_r c 24 i + 1)) (51 + 3 * i) := fw_chw_u hcw (by omega)
    have hrb : fg_RB 18 M (fw_u c 24 i (fw_r c 24 i + 1)) m := fg_RB_c h2 (fun j => fw_r_k _ (by decide)) (fun j => fw_r_k _ (by decide)) (fun j => fw_r_k _ (by decide))
    have ep2 : fw_E 11 0 [(2, 18), (0, fw_r (fw_u c 24 i (fw_r c 24 i + 1)) (51 + 3 * i) 0)] [] (fw_u c 24 i (fw_r c 24 i + 1)) = some ((5, 0), fg_put (fw_u c 24 i (fw_r c 24 i + 1)) 18 (fw_r m 34 i) (-1)) := by
      rw [fw_r_k _ (by omega), p1, fs_takeFrom (Or.inr rfl) hp2 hrb.1 (by omega) (by rw [hrb.2.1]; omega)]
    have fr : fg_FR c (fg_put (fw_u c 24 i (fw_r c 24 i + 1)) 18 (fw_r m 34 i) (-1)) := fg_FR_put (fg_FR_u (fg_FR_refl c) (by decide) (by decide))
    have hdd := fg_dv_1 hd
    refine ⟨fg_put (fw_u c 24 i (fw_r c 24 i + 1)) 18 (fw_r m 34 i) (-1), (2, 51 + 3 * i), ?_, ?_, fr⟩
    · rw [hd, fw_b_28_62]
      simp (disch := first | assumption | first | omega | assumption | (simp (disch := omega) only [fw_w_id, fw_wl_id, fw_r_k, fw_r_j, fw_r_s]; omega) | (simp only [fw_ptr_32_0, fl_ptr_32_0, fw_ptr_32_1, fl_ptr_32_1, fw_ptr_32_2, fw_ptr_32_3, fw_ptr_32_4, fw_ptr_32_5, fl_ptr_32_5, fw_ptr_32_6, fw_ptr_32_7, fw_ptr_32_8, fw_ptr_32_9, fw_ptr_32_10, fl_ptr_32_10, fw_ptr_32_11, fl_ptr_32_11, fw_ptr_32_12, fw_ptr_32_13, fw_ptr_32_14, fw_ptr_32_15, fw_ptr_32_16, fw_ptr_32_17, fl_ptr_32_17, fw_ptr_32_18, fl_ptr_32_18, fw_ptr_32_19, fl_ptr_32_19, fw_ptr_32_20, fl_ptr_32_20, fw_ptr_32_21, fl_ptr_32_21, fw_ptr_32_22, fl_ptr_32_22, fw_ptr_32_23, fw_ptr_32_24, fw_ptr_32_25, fw_ptr_32_26, fw_ptr_32_27, fw_ptr_32_28, fw_ptr_32_29, fw_ptr_32_30, fw_ptr_32_31, fw_ptr_32_32, fw_ptr_32_33, fw_ptr_32_34, fw_ptr_32_35, fw_ptr_1_8, fw_ptr_2_5, fw_ptr_2_6, fw_ptr_2_7, fw_ptr_2_8, fw_ptr_2_9, fw_ptr_8_2, fw_ptr_8_3, fw_ptr_11_2, fw_ptr_11_3, fw_ptr_11_4, fw_ptr_11_5, fw_ptr_11_6, fw_ptr_17_8, fw_ptr_18_2, fw_ptr_18_3, fw_ptr_25_1, fw_ptr_27_2, fw_ptr_28_1, fl_ptr_33, fl_ptr_34, fl_ptr_35, fl_ptr_36, fl_ptr_38, fl_ptr_39, fl_ptr_40, fl_ptr_41, fl_ptr_42, fl_ptr_43, fl_ptr_44, fl_ptr_45, fl_ptr_46, fl_ptr_47, fl_ptr_48, fl_ptr_49, fl_ptr_50, fw_ptr_3, fw_ptr_4, fw_ptr_5, fw_ptr_6, fw_ptr_7, fw_ptr_9, fw_ptr_10, fw_ptr_13, fw_ptr_15, fw_ptr_16, fw_ptr_19, fw_ptr_20, fw_ptr_21, fw_ptr_22, fw_ptr_23, fw_ptr_24, fw_ptr_26, fw_ptr_29, fw_ptr_30, fw_ptr_31, fw_ptr_33, fw_ptr_34, fw_ptr_35, fw_ptr_36, fw_ptr_37, fw_ptr_38, fw_ptr_39, fw_ptr_40, fw_ptr_41, fw_ptr_42, fw_ptr_43, fw_ptr_44, fw_ptr_45, fw_ptr_46, fw_ptr_47, fw_ptr_48, fw_ptr_49, fw_ptr_50, fw_ptr_51, fw_ptr_52, fw_ptr_53, fw_ptr_54, fw_ptr_55, fw_ptr_12, fw_ptr_x, fw_ptr_hi, fw_ptr_b3, fw_ptr_b1, fw_ptr_b2, fw_ptr_b2_, fl_ptr_x, fl_ptr_hi, fl_ptr_lo, fl_ptr_in]; assumption)) only [fw_b_28_68, fw_b_28_76, fw_b_28_81, fw_b_28_94, fw_b_28_97, fw_b_28_100, fw_b_28_111, hch, ep, hg, ep2, ↓if_pos, ↓if_neg, fw_bs, fw_cn_0, fw_cn_2, fw_cn_5, Nat.reduceAdd, fw_w_id]
    · unfold fg_lc; rw [if_pos hd]
      refine ⟨fg_CF_42 (fg_CF_33 (fg_CF_FR hcf (fg_put_ptr (Or.inr rfl) hp2) fr)), ?_, fg_TR_m (fg_TR_take h3 (by omega) (by omega)) (fw_r_k _ (by decide)) (fw_r_k _ (by decide)) (fw_r_k _ (by decide)) (fun j => fw_r_k _ (by decide)) (fun j => fw_r_k _ (by decide)), ?_, ?_, ?_⟩
      · exact fg_RB_m (fg_RB_take hM hrb (by omega) (by omega)) (fw_r_k _ (by decide)) (fun j => fw_r_k _ (by decide)) (fun j => fw_r_k _ (by decide))
      · rw [fg_put_o _ _ _ _ (by decide) (by decide), fw_r_k _ (by decide), fw_r_k _ (by decide), fw_r_k _ (by decide)]; exact h4
      · rw [fr 2 6 (by decide), fr 2 5 (by decide)]; exact h5
      · intro j a d
        rw [fw_r_k _ (by decide), fw_r_k _ (by decide)] at d
        rw [fg_put_o _ _ _ _ (by decide) (by decide), fw_r_u, fw_r_u, fw_r_k _ (by decide)]
        by_cases hj : j = i
        · subst hj; rw [if_pos ⟨rfl, rfl⟩, if_pos ⟨rfl, rfl⟩]
          have := (e2 j h0 hi).2.1
          omega
        · rw [if_neg (fun hc => hj hc.2), if_neg (fun hc => hj hc.2)]; exact h6 j a d
theorem fs_lk_lp : ∀ (k : Nat) (i acc M : Int) (c m : fw_M) (a3 : fw_V), 0 ≤ M → fg_LK M c m → 0 ≤ i → i + k = fw_r m 32 3 → 0 ≤ acc → acc ≤ i → ∃ c' a3', fw_E 28 62 [(2, 17), (0, acc), (0, i), a3] [] c = fw_E 28 62 [(2, 17), (0, acc + fg_lcs m i k), (0, i + k), a3'] [] c' ∧ fg_LK M c' (fg_lcn m i k) ∧ fg_FR c c' ∧ (0 ≤ acc + fg_lcs m i k ∧ acc + fg_lcs m i k ≤ i + k) := by
  intro k
  induction k with
  | zero =>
    intro i acc M c m a3 hM h h0 h1 h2 h3
    refine ⟨c, a3, ?_, h, fg_FR_refl c, ?_⟩
    · simp only [fg_lcs, Int.add_zero, Int.natCast_zero]
    · simp only [fg_lcs]; omega
  | succ k ih =>
    intro i acc M c m a3 hM h h0 h1 h2 h3
    have hn : fw_r m 32 3 ≤ 6 := by have := h.1.1.2.1.2.1; have := h.1.1.2.2; omega
    obtain ⟨c1, a31, q1, q2, q3⟩ := fs_lk_chute (a3 := a3) hM h h0 (by omega) ⟨h2, (by omega : acc ≤ 100)⟩
    have hd := fg_dv_01 m i
    have e3 : fw_r (fg_lc m i) 32 3 = fw_r m 32 3 := fg_lc_n m i 32 (by decide) (by decide) 3
    obtain ⟨c2, a32, r1, r2, r3, r4⟩ := ih (i + 1) (acc + fg_dv m i) M c1 (fg_lc m i) a31 hM q2 (by omega) (by rw [e3]; omega) (by omega) (by omega)
    have ek : i + 1 + (k : Int) = i + ((k + 1 : Nat) : Int) := by omega
    refine ⟨c2, a32, ?_, r2, fg_FR_trans q3 r3, ?_⟩
    · rw [q1, r1, fg_lcs, ek, Int.add_assoc]
    · rw [fg_lcs]; omega
theorem fs_lk_skip {M : Int} {c m : fw_M} (h : fg_LK M c m) : ∀ (k : Nat) (i acc : Int) (a3 : fw_V), fw_r m 32 3 ≤ i → i + k = 6 → ∃ a3' i', fw_E 28 62 [(2, 17), (0, acc), (0, i), a3] [] c = fw_E 28 120 [(2, 17), (0, acc), (0, i'), a3'] [] c := by
  intro k
  have a1 := h.1.1.1
  have a2 := h.1.1.2.1
  have a3 := h.1.1.2.2
  have a4 := a2.1
  induction k with
  | zero =>
    intro i acc a3 h0 h1
    refine ⟨a3, i, ?_⟩
    simp (disch := first | omega | assumption | (simp (disch := omega) only [fw_w_id, fw_wl_id, fw_r_k, fw_r_j, fw_r_s]; omega) | (simp only [fw_ptr_32_0, fl_ptr_32_0, fw_ptr_32_1, fl_ptr_32_1, fw_ptr_32_2, fw_ptr_32_3, fw_ptr_32_4, fw_ptr_32_5, fl_ptr_32_5, fw_ptr_32_6, fw_ptr_32_7, fw_ptr_32_8, fw_ptr_32_9, fw_ptr_32_10, fl_ptr_32_10, fw_ptr_32_11, fl_ptr_32_11, fw_ptr_32_12, fw_ptr_32_13, fw_ptr_32_14, fw_ptr_32_15, fw_ptr_32_16, fw_ptr_32_17, fl_ptr_32_17, fw_ptr_32_18, fl_ptr_32_18, fw_ptr_32_19, fl_ptr_32_19, fw_ptr_32_20, fl_ptr_32_20, fw_ptr_32_21, fl_ptr_32_21, fw_ptr_32_22, fl_ptr_32_22, fw_ptr_32_23, fw_ptr_32_24, fw_ptr_32_25, fw_ptr_32_26, fw_ptr_32_27, fw_ptr_32_28, fw_ptr_32_29, fw_ptr_32_30, fw_ptr_32_31, fw_ptr_32_32, fw_ptr_32_33, fw_ptr_32_34, fw_ptr_32_35, fw_ptr_1_8, fw_ptr_2_5, fw_ptr_2_6, fw_ptr_2_7, fw_ptr_2_8, fw_ptr_2_9, fw_ptr_8_2, fw_ptr_8_3, fw_ptr_11_2, fw_ptr_11_3, fw_ptr_11_4, fw_ptr_11_5, fw_ptr_11_6, fw_ptr_17_8, fw_ptr_18_2, fw_ptr_18_3, fw_ptr_25_1, fw_ptr_27_2, fw_ptr_28_1, fl_ptr_33, fl_ptr_34, fl_ptr_35, fl_ptr_36, fl_ptr_38, fl_ptr_39, fl_ptr_40, fl_ptr_41, fl_ptr_42, fl_ptr_43, fl_ptr_44, fl_ptr_45, fl_ptr_46, fl_ptr_47, fl_ptr_48, fl_ptr_49, fl_ptr_50, fw_ptr_3, fw_ptr_4, fw_ptr_5, fw_ptr_6, fw_ptr_7, fw_ptr_9, fw_ptr_10, fw_ptr_13, fw_ptr_15, fw_ptr_16, fw_ptr_19, fw_ptr_20, fw_ptr_21, fw_ptr_22, fw_ptr_23, fw_ptr_24, fw_ptr_26, fw_ptr_29, fw_ptr_30, fw_ptr_31, fw_ptr_33, fw_ptr_34, fw_ptr_35, fw_ptr_36, fw_ptr_37, fw_ptr_38, fw_ptr_39, fw_ptr_40, fw_ptr_41, fw_ptr_42, fw_ptr_43, fw_ptr_44, fw_ptr_45, fw_ptr_46, fw_ptr_47, fw_ptr_48, fw_ptr_49, fw_ptr_50, fw_ptr_51, fw_ptr_52, fw_ptr_53, fw_ptr_54, fw_ptr_55, fw_ptr_12, fw_ptr_x, fw_ptr_hi, fw_ptr_b3, fw_ptr_b1, fw_ptr_b2, fw_ptr_b2_, fl_ptr_x, fl_ptr_hi, fl_ptr_lo, fl_ptr_in]; assumption)) only [fw_b_28_62, ↓if_pos, ↓if_neg, if_neg, if_pos, fw_bs, fw_cn_0, fw_cn_1, fw_cn_2, fw_cn_3, fw_cn_4, fw_cn_5, Nat.reduceAdd, fw_w_id, fw_wl_id, fw_r_k, fw_r_j, fw_r_s, fw_r_x, if_true, if_false]
  | succ k ih =>
    intro i acc a3 h0 h1
    obtain ⟨b3, i', e⟩ := ih (i + 1) acc (2, 0) (by omega) (by omega)
    refine ⟨b3, i', ?_⟩
    rw [← e, fw_b_28_62]
    simp (disch := first | omega | assumption | (simp (disch := omega) only [fw_w_id, fw_wl_id, fw_r_k, fw_r_j, fw_r_s]; omega) | (simp only [fw_ptr_32_0, fl_ptr_32_0, fw_ptr_32_1, fl_ptr_32_1, fw_ptr_32_2, fw_ptr_32_3, fw_ptr_32_4, fw_ptr_32_5, fl_ptr_32_5, fw_ptr_32_6, fw_ptr_32_7, fw_ptr_32_8, fw_ptr_32_9, fw_ptr_32_10, fl_ptr_32_10, fw_ptr_32_11, fl_ptr_32_11, fw_ptr_32_12, fw_ptr_32_13, fw_ptr_32_14, fw_ptr_32_15, fw_ptr_32_16, fw_ptr_32_17, fl_ptr_32_17, fw_ptr_32_18, fl_ptr_32_18, fw_ptr_32_19, fl_ptr_32_19, fw_ptr_32_20, fl_ptr_32_20, fw_ptr_32_21, fl_ptr_32_21, fw_ptr_32_22, fl_ptr_32_22, fw_ptr_32_23, fw_ptr_32_24, fw_ptr_32_25, fw_ptr_32_26, fw_ptr_32_27, fw_ptr_32_28, fw_ptr_32_29, fw_ptr_32_30, fw_ptr_32_31, fw_ptr_32_32, fw_ptr_32_33, fw_ptr_32_34, fw_ptr_32_35, fw_ptr_1_8, fw_ptr_2_5, fw_ptr_2_6, fw_ptr_2_7, fw_ptr_2_8, fw_ptr_2_9, fw_ptr_8_2, fw_ptr_8_3, fw_ptr_11_2, fw_ptr_11_3, fw_ptr_11_4, fw_ptr_11_5, fw_ptr_11_6, fw_ptr_17_8, fw_ptr_18_2, fw_ptr_18_3, fw_ptr_25_1, fw_ptr_27_2, fw_ptr_28_1, fl_ptr_33, fl_ptr_34, fl_ptr_35, fl_ptr_36, fl_ptr_38, fl_ptr_39, fl_ptr_40, fl_ptr_41, fl_ptr_42, fl_ptr_43, fl_ptr_44, fl_ptr_45, fl_ptr_46, fl_ptr_47, fl_ptr_48, fl_ptr_49, fl_ptr_50, fw_ptr_3, fw_ptr_4, fw_ptr_5, fw_ptr_6, fw_ptr_7, fw_ptr_9, fw_ptr_10, fw_ptr_13, fw_ptr_15, fw_ptr_16, fw_ptr_19, fw_ptr_20, fw_ptr_21, fw_ptr_22, fw_ptr_23, fw_ptr_24, fw_ptr_26, fw_ptr_29, fw_ptr_30, fw_ptr_31, fw_ptr_33, fw_ptr_34, fw_ptr_35, fw_ptr_36, fw_ptr_37, fw_ptr_38, fw_ptr_39, fw_ptr_40, fw_ptr_41, fw_ptr_42, fw_ptr_43, fw_ptr_44, fw_ptr_45, fw_ptr_46, fw_ptr_47, fw_ptr_48, fw_ptr_49, fw_ptr_50, fw_ptr_51, fw_ptr_52, fw_ptr_53, fw_ptr_54, fw_ptr_55, fw_ptr_12, fw_ptr_x, fw_ptr_hi, fw_ptr_b3, fw_ptr_b1, fw_ptr_b2, fw_ptr_b2_, fl_ptr_x, fl_ptr_hi, fl_ptr_lo, fl_ptr_in]; assumption)) only [fw_b_28_68, fw_b_28_76, fw_b_28_114, fs_chute_f, ↓if_pos, ↓if_neg, if_neg, if_pos, fw_bs, fw_cn_0, fw_cn_1, fw_cn_2, fw_cn_3, fw_cn_4, fw_cn_5, Nat.reduceAdd, fw_w_id, fw_wl_id, fw_r_k, fw_r_j, fw_r_s, fw_r_x, if_true, if_false]
theorem fs_lk_over {M : Int} {c m : fw_M} {i acc : Int} {a3 : fw_V} (hM : 0 ≤ M) (h : fg_LK M c m) (ha : 0 ≤ acc ∧ acc ≤ 100) : ∃ c', fw_E 28 120 [(2, 17), (0, acc), (0, i), a3] [] c = some ((0, acc + fg_ov m), c') ∧ fg_LK M c' (fg_lo m) ∧ fg_FR c c' := by
  have hh := h
  obtain ⟨h1, h2, h3, h4, h5, h6⟩ := h
  have hcf := h1
  obtain ⟨⟨a1, a2, a3'⟩, ⟨b0, b1, b2, b3, b4, b5⟩, e1, e2, e3, e4, e5⟩ := h1
  have tp := h2.2.2.1 (fw_r m 32 1 - 1) (by omega) (by omega)
  have ht := h3.2.2.1 (fw_r m 32 1 - 1) (by omega) (by omega)
  have ep : fw_E 7 0 [(2, 18), (0, fw_r c 11 3), (8, 0)] [] c = some ((0, fw_r m 33 (fw_r m 32 1 - 1)), c) := by
    rw [b1, fs_parcelAt (Or.inr rfl) a1 h2.1 (by omega) (by rw [h2.2.1]; omega), tp.1]
  have er : fw_E 8 0 [(2, 18), (0, fw_r c 11 3), (8, 0)] [] c = some ((0, fg_rd c 18 (fw_r m 32 1 - 1)), c) := by
    rw [b1, fs_roundsAt (Or.inr rfl) a1 h2.1 (by omega) (by rw [h2.2.1]; omega)]
  have hiff : fg_ot c (fw_r m 33 (fw_r m 32 1 - 1)) (fg_rd c 18 (fw_r m 32 1 - 1)) ↔ (fw_r m 33 (fw_r m 32 1 - 1) ≠ -1 ∧ fw_r m 32 8 = 0 ∧ fw_r m 32 9 ≤ fw_r m 40 (fw_r m 33 (fw_r m 32 1 - 1))) := by
    unfold fg_ot; rw [b4, b2]
    constructor
    · rintro ⟨x, y, z⟩; rw [tp.2 y] at z; exact ⟨y, x, z⟩
    · rintro ⟨x, y, z⟩; rw [tp.2 x]; exact ⟨y, x, z⟩
  rcases fg_ov_01 m with hd | hd
  · have hn : ¬fg_ot c (fw_r m 33 (fw_r m 32 1 - 1)) (fg_rd c 18 (fw_r m 32 1 - 1)) := fun hx => fg_ov_0 hd (hiff.mp hx)
    refine ⟨c, ?_, ?_, fg_FR_refl c⟩
    · rw [hd]
      simp (disch := first | omega | assumption | (simp (disch := omega) only [fw_w_id, fw_wl_id, fw_r_k, fw_r_j, fw_r_s]; omega) | (simp only [fw_ptr_32_0, fl_ptr_32_0, fw_ptr_32_1, fl_ptr_32_1, fw_ptr_32_2, fw_ptr_32_3, fw_ptr_32_4, fw_ptr_32_5, fl_ptr_32_5, fw_ptr_32_6, fw_ptr_32_7, fw_ptr_32_8, fw_ptr_32_9, fw_ptr_32_10, fl_ptr_32_10, fw_ptr_32_11, fl_ptr_32_11, fw_ptr_32_12, fw_ptr_32_13, fw_ptr_32_14, fw_ptr_32_15, fw_ptr_32_16, fw_ptr_32_17, fl_ptr_32_17, fw_ptr_32_18, fl_ptr_32_18, fw_ptr_32_19, fl_ptr_32_19, fw_ptr_32_20, fl_ptr_32_20, fw_ptr_32_21, fl_ptr_32_21, fw_ptr_32_22, fl_ptr_32_22, fw_ptr_32_23, fw_ptr_32_24, fw_ptr_32_25, fw_ptr_32_26, fw_ptr_32_27, fw_ptr_32_28, fw_ptr_32_29, fw_ptr_32_30, fw_ptr_32_31, fw_ptr_32_32, fw_ptr_32_33, fw_ptr_32_34, fw_ptr_32_35, fw_ptr_1_8, fw_ptr_2_5, fw_ptr_2_6, fw_ptr_2_7, fw_ptr_2_8, fw_ptr_2_9, fw_ptr_8_2, fw_ptr_8_3, fw_ptr_11_2, fw_ptr_11_3, fw_ptr_11_4, fw_ptr_11_5, fw_ptr_11_6, fw_ptr_17_8, fw_ptr_18_2, fw_ptr_18_3, fw_ptr_25_1, fw_ptr_27_2, fw_ptr_28_1, fl_ptr_33, fl_ptr_34, fl_ptr_35, fl_ptr_36, fl_ptr_38, fl_ptr_39, fl_ptr_40, fl_ptr_41, fl_ptr_42, fl_ptr_43, fl_ptr_44, fl_ptr_45, fl_ptr_46, fl_ptr_47, fl_ptr_48, fl_ptr_49, fl_ptr_50, fw_ptr_3, fw_ptr_4, fw_ptr_5, fw_ptr_6, fw_ptr_7, fw_ptr_9, fw_ptr_10, fw_ptr_13, fw_ptr_15, fw_ptr_16, fw_ptr_19, fw_ptr_20, fw_ptr_21, fw_ptr_22, fw_ptr_23, fw_ptr_24, fw_ptr_26, fw_ptr_29, fw_ptr_30, fw_ptr_31, fw_ptr_33, fw_ptr_34, fw_ptr_35, fw_ptr_36, fw_ptr_37, fw_ptr_38, fw_ptr_39, fw_ptr_40, fw_ptr_41, fw_ptr_42, fw_ptr_43, fw_ptr_44, fw_ptr_45, fw_ptr_46, fw_ptr_47, fw_ptr_48, fw_ptr_49, fw_ptr_50, fw_ptr_51, fw_ptr_52, fw_ptr_53, fw_ptr_54, fw_ptr_55, fw_ptr_12, fw_ptr_x, fw_ptr_hi, fw_ptr_b3, fw_ptr_b1, fw_ptr_b2, fw_ptr_b2_, fl_ptr_x, fl_ptr_hi, fl_ptr_lo, fl_ptr_in]; assumption)) only [fw_b_28_120, fw_b_28_138, fw_b_28_152, fw_b_28_155, fw_b_28_175, ep, er, fs_overflowTakes_f, ↓if_pos, ↓if_neg, if_neg, if_pos, fw_bs, fw_cn_0, fw_cn_1, fw_cn_2, fw_cn_3, fw_cn_4, fw_cn_5, Nat.reduceAdd, fw_w_id, fw_wl_id, fw_r_k, fw_r_j, fw_r_s, fw_r_x, if_true, if_false, Int.add_zero]
    · unfold fg_lo; rw [if_neg (by omega)]; exact hh
  · have hy : fg_ot c (fw_r m 33 (fw_r m 32 1 - 1)) (fg_rd c 18 (fw_r m 32 1 - 1)) := hiff.mpr (fg_ov_1 hd)
    have et : fw_E 11 0 [(2, 18), (0, fw_r c 11 3)] [] c = some ((5, 0), fg_put c 18 (fw_r m 32 1 - 1) (-1)) := by
      rw [b1, fs_takeFrom (Or.inr rfl) a1 h2.1 (by omega) (by rw [h2.2.1]; omega)]
    have fr : fg_FR c (fg_put c 18 (fw_r m 32 1 - 1) (-1)) := fg_FR_put (fg_FR_refl c)
    refine ⟨fg_put c 18 (fw_r m 32 1 - 1) (-1), ?_, ?_, fr⟩
    · rw [hd]
      simp (disch := first | omega | assumption | (simp (disch := omega) only [fw_w_id, fw_wl_id, fw_r_k, fw_r_j, fw_r_s]; omega) | (simp only [fw_ptr_32_0, fl_ptr_32_0, fw_ptr_32_1, fl_ptr_32_1, fw_ptr_32_2, fw_ptr_32_3, fw_ptr_32_4, fw_ptr_32_5, fl_ptr_32_5, fw_ptr_32_6, fw_ptr_32_7, fw_ptr_32_8, fw_ptr_32_9, fw_ptr_32_10, fl_ptr_32_10, fw_ptr_32_11, fl_ptr_32_11, fw_ptr_32_12, fw_ptr_32_13, fw_ptr_32_14, fw_ptr_32_15, fw_ptr_32_16, fw_ptr_32_17, fl_ptr_32_17, fw_ptr_32_18, fl_ptr_32_18, fw_ptr_32_19, fl_ptr_32_19, fw_ptr_32_20, fl_ptr_32_20, fw_ptr_32_21, fl_ptr_32_21, fw_ptr_32_22, fl_ptr_32_22, fw_ptr_32_23, fw_ptr_32_24, fw_ptr_32_25, fw_ptr_32_26, fw_ptr_32_27, fw_ptr_32_28, fw_ptr_32_29, fw_ptr_32_30, fw_ptr_32_31, fw_ptr_32_32, fw_ptr_32_33, fw_ptr_32_34, fw_ptr_32_35, fw_ptr_1_8, fw_ptr_2_5, fw_ptr_2_6, fw_ptr_2_7, fw_ptr_2_8, fw_ptr_2_9, fw_ptr_8_2, fw_ptr_8_3, fw_ptr_11_2, fw_ptr_11_3, fw_ptr_11_4, fw_ptr_11_5, fw_ptr_11_6, fw_ptr_17_8, fw_ptr_18_2, fw_ptr_18_3, fw_ptr_25_1, fw_ptr_27_2, fw_ptr_28_1, fl_ptr_33, fl_ptr_34, fl_ptr_35, fl_ptr_36, fl_ptr_38, fl_ptr_39, fl_ptr_40, fl_ptr_41, fl_ptr_42, fl_ptr_43, fl_ptr_44, fl_ptr_45, fl_ptr_46, fl_ptr_47, fl_ptr_48, fl_ptr_49, fl_ptr_50, fw_ptr_3, fw_ptr_4, fw_ptr_5, fw_ptr_6, fw_ptr_7, fw_ptr_9, fw_ptr_10, fw_ptr_13, fw_ptr_15, fw_ptr_16, fw_ptr_19, fw_ptr_20, fw_ptr_21, fw_ptr_22, fw_ptr_23, fw_ptr_24, fw_ptr_26, fw_ptr_29, fw_ptr_30, fw_ptr_31, fw_ptr_33, fw_ptr_34, fw_ptr_35, fw_ptr_36, fw_ptr_37, fw_ptr_38, fw_ptr_39, fw_ptr_40, fw_ptr_41, fw_ptr_42, fw_ptr_43, fw_ptr_44, fw_ptr_45, fw_ptr_46, fw_ptr_47, fw_ptr_48, fw_ptr_49, fw_ptr_50, fw_ptr_51, fw_ptr_52, fw_ptr_53, fw_ptr_54, fw_ptr_55, fw_ptr_12, fw_ptr_x, fw_ptr_hi, fw_ptr_b3, fw_ptr_b1, fw_ptr_b2, fw_ptr_b2_, fl_ptr_x, fl_ptr_hi, fl_ptr_lo, fl_ptr_in]; assumption)) only [fw_b_28_120, fw_b_28_138, fw_b_28_152, fw_b_28_155, fw_b_28_158, fw_b_28_172, ep, er, et, fs_overflowTakes_t, ↓if_pos, ↓if_neg, if_neg, if_pos, fw_bs, fw_cn_0, fw_cn_1, fw_cn_2, fw_cn_3, fw_cn_4, fw_cn_5, Nat.reduceAdd, fw_w_id, fw_wl_id, fw_r_k, fw_r_j, fw_r_s, fw_r_x, if_true, if_false]
    · unfold fg_lo; rw [if_pos hd]
      refine ⟨fg_CF_33 (fg_CF_FR hcf (fg_put_ptr (Or.inr rfl) a1) fr), fg_RB_take hM h2 (by omega) (by omega), fg_TR_take h3 (by omega) (by omega), ?_, ?_, ?_⟩
      · rw [fg_put_o _ _ _ _ (by decide) (by decide), fw_r_k _ (by decide)]; exact h4
      · rw [fr 2 6 (by decide), fr 2 5 (by decide)]; exact h5
      · intro j a d
        rw [fw_r_k _ (by decide)] at d
        rw [fg_put_o _ _ _ _ (by decide) (by decide), fw_r_k _ (by decide)]
        exact h6 j a d
/-- a tick of the look ahead, in the class's order -/
def fg_n (m : fw_M) : Nat := (fw_r m 32 3).toNat
def fg_T1 (m : fw_M) : fw_M := fg_lo (fg_lcn (fg_ll (fg_mvs m)) 0 (fg_n m))
def fg_C1 (m : fw_M) : Int := fg_lcs (fg_ll (fg_mvs m)) 0 (fg_n m) + fg_ov (fg_lcn (fg_ll (fg_mvs m)) 0 (fg_n m))
theorem fg_ll_n (m : fw_M) : fw_r (fg_ll m) 32 3 = fw_r m 32 3 := by
  unfold fg_ll; split
  · rw [fw_r_j _ (by decide), fw_r_k _ (by decide)]
  · rfl
theorem fs_moveOrigin {M : Int} {c m : fw_M} {a1 a2 a3 : fw_V} (hM : 0 ≤ M) (hM2 : M ≤ 1000000000) (h : fg_LK M c m) : ∃ c', fw_E 28 0 [(2, 17), a1, a2, a3] [] c = some ((0, fg_C1 m), c') ∧ fg_LK (M + 1) c' (fg_T1 m) ∧ fg_FR c c' ∧ 0 ≤ fg_C1 m ∧ fg_C1 m ≤ 7 := by
  have hp := h.1.1.1
  have hn0 : 0 ≤ fw_r m 32 3 ∧ fw_r m 32 3 ≤ 6 := by have := h.1.1.2.1.1; have := h.1.1.2.1.2.1; have := h.1.1.2.2; omega
  obtain ⟨p1, p2, p3⟩ := fs_lk_move h hM2
  obtain ⟨c2, q1, q2, q3⟩ := fs_lk_load (a1 := a1) (a2 := a2) (a3 := a3) (by omega) p2
  have en : fw_r (fg_ll (fg_mvs m)) 32 3 = fw_r m 32 3 := (fg_ll_n _).trans (fg_mvs_o _ (by decide) (by decide))
  obtain ⟨c3, b3, r1, r2, r3, r4⟩ := fs_lk_lp (fg_n m) 0 0 (M + 1) c2 (fg_ll (fg_mvs m)) a3 (by omega) q2 (by omega) (by rw [en]; unfold fg_n; omega) (by omega) (by omega)
  have en2 : ∀ (k : Nat) (i : Int) (x : fw_M), fw_r (fg_lcn x i k) 32 3 = fw_r x 32 3 := by
    intro k
    induction k with
    | zero => intro i x; rfl
    | succ k ih => intro i x; rw [fg_lcn, ih, fg_lc_n _ _ _ (by decide) (by decide)]
  have hk : ((fg_n m : Nat) : Int) = fw_r m 32 3 := by unfold fg_n; omega
  obtain ⟨b4, i4, s1⟩ := fs_lk_skip r2 (6 - fg_n m) (0 + (fg_n m : Int)) (0 + fg_lcs (fg_ll (fg_mvs m)) 0 (fg_n m)) b3 (by rw [en2, en]; omega) (by omega)
  obtain ⟨c5, t1, t2, t3⟩ := fs_lk_over (i := i4) (acc := 0 + fg_lcs (fg_ll (fg_mvs m)) 0 (fg_n m)) (a3 := b4) (by omega) r2 ⟨r4.1, by omega⟩
  have ho := fg_ov_01 (fg_lcn (fg_ll (fg_mvs m)) 0 (fg_n m))
  refine ⟨c5, ?_, t2, fg_FR_trans p3 (fg_FR_trans q3 (fg_FR_trans r3 t3)), ?_⟩
  · simp (disch := first | omega | assumption | (simp (disch := omega) only [fw_w_id, fw_wl_id, fw_r_k, fw_r_j, fw_r_s]; omega) | (simp only [fw_ptr_32_0, fl_ptr_32_0, fw_ptr_32_1, fl_ptr_32_1, fw_ptr_32_2, fw_ptr_32_3, fw_ptr_32_4, fw_ptr_32_5, fl_ptr_32_5, fw_ptr_32_6, fw_ptr_32_7, fw_ptr_32_8, fw_ptr_32_9, fw_ptr_32_10, fl_ptr_32_10, fw_ptr_32_11, fl_ptr_32_11, fw_ptr_32_12, fw_ptr_32_13, fw_ptr_32_14, fw_ptr_32_15, fw_ptr_32_16, fw_ptr_32_17, fl_ptr_32_17, fw_ptr_32_18, fl_ptr_32_18, fw_ptr_32_19, fl_ptr_32_19, fw_ptr_32_20, fl_ptr_32_20, fw_ptr_32_21, fl_ptr_32_21, fw_ptr_32_22, fl_ptr_32_22, fw_ptr_32_23, fw_ptr_32_24, fw_ptr_32_25, fw_ptr_32_26, fw_ptr_32_27, fw_ptr_32_28, fw_ptr_32_29, fw_ptr_32_30, fw_ptr_32_31, fw_ptr_32_32, fw_ptr_32_33, fw_ptr_32_34, fw_ptr_32_35, fw_ptr_1_8, fw_ptr_2_5, fw_ptr_2_6, fw_ptr_2_7, fw_ptr_2_8, fw_ptr_2_9, fw_ptr_8_2, fw_ptr_8_3, fw_ptr_11_2, fw_ptr_11_3, fw_ptr_11_4, fw_ptr_11_5, fw_ptr_11_6, fw_ptr_17_8, fw_ptr_18_2, fw_ptr_18_3, fw_ptr_25_1, fw_ptr_27_2, fw_ptr_28_1, fl_ptr_33, fl_ptr_34, fl_ptr_35, fl_ptr_36, fl_ptr_38, fl_ptr_39, fl_ptr_40, fl_ptr_41, fl_ptr_42, fl_ptr_43, fl_ptr_44, fl_ptr_45, fl_ptr_46, fl_ptr_47, fl_ptr_48, fl_ptr_49, fl_ptr_50, fw_ptr_3, fw_ptr_4, fw_ptr_5, fw_ptr_6, fw_ptr_7, fw_ptr_9, fw_ptr_10, fw_ptr_13, fw_ptr_15, fw_ptr_16, fw_ptr_19, fw_ptr_20, fw_ptr_21, fw_ptr_22, fw_ptr_23, fw_ptr_24, fw_ptr_26, fw_ptr_29, fw_ptr_30, fw_ptr_31, fw_ptr_33, fw_ptr_34, fw_ptr_35, fw_ptr_36, fw_ptr_37, fw_ptr_38, fw_ptr_39, fw_ptr_40, fw_ptr_41, fw_ptr_42, fw_ptr_43, fw_ptr_44, fw_ptr_45, fw_ptr_46, fw_ptr_47, fw_ptr_48, fw_ptr_49, fw_ptr_50, fw_ptr_51, fw_ptr_52, fw_ptr_53, fw_ptr_54, fw_ptr_55, fw_ptr_12, fw_ptr_x, fw_ptr_hi, fw_ptr_b3, fw_ptr_b1, fw_ptr_b2, fw_ptr_b2_, fl_ptr_x, fl_ptr_hi, fl_ptr_lo, fl_ptr_in]; assumption)) only [fw_b_28_0, p1, fw_bs, fw_cn_5, Nat.reduceAdd]
    rw [q1, fw_b_28_58, r1, s1, t1, Int.zero_add]
    rfl
  · unfold fg_C1; omega
