/-! leavingAhead, leavingByTrays -/
theorem fg_MN_of {M : Int} {c m : fw_M} (h : fg_IN M c m) : fg_MN M c m :=
  ⟨h.1.1, h.2.1.1, fg_ML_of h, h.2.2.1.1, fun i a b => (h.2.2.2.2.1.1 i a b).1.1⟩
theorem fg_SL_ptr {m m' : fw_M} (h : fg_SL m m') (hp : fw_ptr m) : fw_ptr m' := by
  have hd : ∀ q ∈ fw_psT, q.1 ≠ 49 ∧ q.1 ≠ 50 ∧ q.1 ≠ 51 ∧ (q.1 ≠ 32 ∨ q.2.1 ≠ 0) := by decide
  intro q hq
  obtain ⟨a, b, c, d⟩ := hd q hq
  rw [h _ _ a b c d]
  exact hp q hq
theorem fg_fore {t x : Int} {σ c' : fw_M} {a2 a3 a4 : fw_V} (ht : t ≤ 1600) (h : fg_INV t σ) (c1 : 1 ≤ x ∧ x ≤ 200) (hf : fg_FR σ c') (hp1 : fw_ptr c') : ∃ m', fw_E 147 0 [(2, 32), (0, x), a2, a3, a4] [] (fw_u c' 54 0 (fg_Cn x.toNat σ)) = some ((0, fg_Cn x.toNat σ), m') ∧ fg_SL (fw_u c' 54 0 (fg_Cn x.toNat σ)) m' ∧ fw_r m' 32 0 = 0 := by
  have t0 := h.2.1
  have hp := h.1.1.2
  obtain ⟨d, q1, -, -⟩ := fs_byOrigin (a2 := (8, 0)) (a3 := (8, 0)) (fg_MN_of h.1) (by omega) (by omega) c1
  have hps : fw_ptr (fw_u c' 54 0 (fg_Cn x.toNat σ)) := by rw [fw_ptr_54]; exact hp1
  generalize fg_Cn x.toNat σ = v at *
  have hI : fg_IN (200 * t) σ (fw_u c' 54 0 v) := fg_IN_eq h.1 (fg_AC_refl σ) (fun a j u w z => by rw [fw_r_k _ (by omega)]; exact hf _ _ (by omega)) hp hps
  obtain ⟨m1, m', w1, w2, w3, w4, w5⟩ := fs_la (a2 := a2) (a3 := a3) (a4 := a4) (fg_ML_of hI) (by omega) c1
  have hI1 : fg_IN (200 * t) σ m1 := fg_IN_eq hI (fg_AC_refl σ) (fun a j u w z => w2 _ _ (by omega) (by omega) (by omega) z) hp w1.1.1
  obtain ⟨e, r1, -, -⟩ := fs_byOrigin (a2 := (8, 0)) (a3 := (8, 0)) (fg_MN_of hI1) (by omega) (by omega) c1
  rw [q1] at r1
  injection r1 with r1
  have r2 := congrArg (fun o => o.1.2) r1
  dsimp only at r2
  rw [← r2] at w3
  exact ⟨m', w3, w4, w5⟩
theorem fg_OK_fore {t x v : Int} {E1 E2 : fw_M → Option fw_O} {σ c' m' : fw_M} (h : fg_INV t σ) (hf : fg_FR σ c') (hp1 : fw_ptr c') (e1 : E1 σ = some ((0, 0), fw_u c' 54 0 v)) (e2 : E2 (fw_u c' 54 0 v) = some ((0, v), m')) (hs : fg_SL (fw_u c' 54 0 v) m') (h0 : fw_r m' 32 0 = 0) : fg_OK t E1 E2 σ := by
  have hIN := fg_IN_M h.1 (by omega : 200 * t ≤ 200 * (t + 1))
  have hps : fw_ptr (fw_u c' 54 0 v) := by rw [fw_ptr_54]; exact hp1
  have z : ∀ a j, (a < 17 ∨ 24 < a) → a < 49 ∨ 54 < a → (a ≠ 32 ∨ j ≠ 0) → fw_r m' a j = fw_r σ a j := fun a j p q r => by
    rw [hs _ _ (by omega) (by omega) (by omega) r, fw_r_k _ (by omega)]; exact hf _ _ p
  exact fg_OK_fin h e1 e2 h0 (by rw [hs _ _ (by decide) (by decide) (by decide) (by decide), fw_r_s]) hIN (fun a j ha => z _ _ (by omega) (by omega) (by omega)) (fun a j p q r => z _ _ (by omega) (by omega) r) (fg_SL_ptr hs hps) (z _ _ (by decide) (by decide) (by decide)) (z _ _ (by decide) (by decide) (by decide)) (z _ _ (by decide) (by decide) (by decide)) (z _ _ (by decide) (by decide) (by decide)) (fun a j ha => z _ _ (by omega) (by omega) (by omega)) (fun a j ha => by rw [fw_r_k _ (by omega)]; exact hf a j (by omega))
theorem op_leavingAhead {t x : Int} {σ : fw_M} (ht : t ≤ 1600) (h : fg_INV t σ) : fg_OK t (fun σ => fw_E 196 0 [(2, 1), (0, x), (2, 54), (8, 0)] [] σ) (fun σ => fw_E 147 0 [(2, 32), (0, x), (8, 0), (8, 0), (8, 0)] [] σ) σ := by
  have t0 := h.2.1
  have hp := h.1.1.2
  by_cases c1 : 1 ≤ x ∧ x ≤ 200
  · obtain ⟨c', q1, q2, q3⟩ := fs_byOrigin (a2 := (8, 0)) (a3 := (8, 0)) (fg_MN_of h.1) (by omega) (by omega) c1
    obtain ⟨m', w1, w2, w3⟩ := fg_fore (a2 := (8, 0)) (a3 := (8, 0)) (a4 := (8, 0)) ht h c1 q2 q3
    have r1 := fs_rTicks_t (σ := σ) c1
    refine fg_OK_fore (x := x) h q2 q3 ?_ w1 w2 w3
    simp (disch := first | assumption | first | omega | assumption | (simp (disch := omega) only [fw_w_id, fw_wl_id, fw_r_k, fw_r_j, fw_r_s]; omega) | (simp only [fw_ptr_1_8, fw_ptr_2_5, fw_ptr_2_6, fw_ptr_2_7, fw_ptr_2_8, fw_ptr_2_9, fw_ptr_8_2, fw_ptr_8_3, fw_ptr_11_2, fw_ptr_11_3, fw_ptr_11_4, fw_ptr_11_5, fw_ptr_11_6, fw_ptr_17_8, fw_ptr_18_2, fw_ptr_18_3, fw_ptr_25_1, fw_ptr_27_2, fw_ptr_28_1, fw_ptr_32_0, fw_ptr_32_1, fw_ptr_32_3, fw_ptr_32_7, fw_ptr_32_8, fw_ptr_32_9, fw_ptr_32_10, fw_ptr_32_15, fw_ptr_32_16, fw_ptr_32_17, fw_ptr_32_18, fw_ptr_32_19, fw_ptr_32_25, fw_ptr_32_29, fw_ptr_3, fw_ptr_4, fw_ptr_5, fw_ptr_6, fw_ptr_7, fw_ptr_9, fw_ptr_10, fw_ptr_13, fw_ptr_15, fw_ptr_16, fw_ptr_19, fw_ptr_20, fw_ptr_21, fw_ptr_22, fw_ptr_23, fw_ptr_24, fw_ptr_26, fw_ptr_29, fw_ptr_30, fw_ptr_31, fw_ptr_33, fw_ptr_34, fw_ptr_35, fw_ptr_36, fw_ptr_37, fw_ptr_38, fw_ptr_39, fw_ptr_40, fw_ptr_41, fw_ptr_42, fw_ptr_43, fw_ptr_44, fw_ptr_45, fw_ptr_46, fw_ptr_47, fw_ptr_48, fw_ptr_49, fw_ptr_50, fw_ptr_51, fw_ptr_52, fw_ptr_53, fw_ptr_54, fw_ptr_55, fw_ptr_12, fw_ptr_x, fw_ptr_hi, fw_ptr_b3, fw_ptr_b1, fw_ptr_b2, fw_ptr_b2_]; assumption)) only [fw_b_196_0, fw_b_196_12, fw_b_196_7, fw_b_196_9, fw_h196_0, fw_b_86_0, fw_b_86_4, fw_b_86_12, fw_c9_86, r1, q1, ↓if_pos, ↓if_neg, if_neg, if_pos, fw_bs, fw_cn_0, fw_cn_1, fw_cn_2, fw_cn_3, fw_cn_4, fw_cn_5, Nat.reduceAdd, fw_w_id, fw_wl_id, fw_r_k, fw_r_j, fw_r_s, fw_r_x, if_true, if_false]
  · have r1 := fs_rTicks_f (σ := σ) c1
    have w1 := fs_la_no (m := fw_ex σ) (a2 := (8, 0)) (a3 := (8, 0)) (a4 := (8, 0)) c1
    refine fg_OK_err (k := 1) (b := 0) h (by decide) ?_ w1
    simp (disch := first | assumption | first | omega | assumption | (simp (disch := omega) only [fw_w_id, fw_wl_id, fw_r_k, fw_r_j, fw_r_s]; omega) | (simp only [fw_ptr_1_8, fw_ptr_2_5, fw_ptr_2_6, fw_ptr_2_7, fw_ptr_2_8, fw_ptr_2_9, fw_ptr_8_2, fw_ptr_8_3, fw_ptr_11_2, fw_ptr_11_3, fw_ptr_11_4, fw_ptr_11_5, fw_ptr_11_6, fw_ptr_17_8, fw_ptr_18_2, fw_ptr_18_3, fw_ptr_25_1, fw_ptr_27_2, fw_ptr_28_1, fw_ptr_32_0, fw_ptr_32_1, fw_ptr_32_3, fw_ptr_32_7, fw_ptr_32_8, fw_ptr_32_9, fw_ptr_32_10, fw_ptr_32_15, fw_ptr_32_16, fw_ptr_32_17, fw_ptr_32_18, fw_ptr_32_19, fw_ptr_32_25, fw_ptr_32_29, fw_ptr_3, fw_ptr_4, fw_ptr_5, fw_ptr_6, fw_ptr_7, fw_ptr_9, fw_ptr_10, fw_ptr_13, fw_ptr_15, fw_ptr_16, fw_ptr_19, fw_ptr_20, fw_ptr_21, fw_ptr_22, fw_ptr_23, fw_ptr_24, fw_ptr_26, fw_ptr_29, fw_ptr_30, fw_ptr_31, fw_ptr_33, fw_ptr_34, fw_ptr_35, fw_ptr_36, fw_ptr_37, fw_ptr_38, fw_ptr_39, fw_ptr_40, fw_ptr_41, fw_ptr_42, fw_ptr_43, fw_ptr_44, fw_ptr_45, fw_ptr_46, fw_ptr_47, fw_ptr_48, fw_ptr_49, fw_ptr_50, fw_ptr_51, fw_ptr_52, fw_ptr_53, fw_ptr_54, fw_ptr_55, fw_ptr_12, fw_ptr_x, fw_ptr_hi, fw_ptr_b3, fw_ptr_b1, fw_ptr_b2, fw_ptr_b2_]; assumption)) only [fw_b_196_0, fw_b_196_12, fw_b_196_7, fw_b_196_9, fw_h196_0, fw_b_86_0, fw_b_86_4, fw_b_86_12, fw_c9_86, r1, ↓if_pos, ↓if_neg, if_neg, if_pos, fw_bs, fw_cn_0, fw_cn_1, fw_cn_2, fw_cn_3, fw_cn_4, fw_cn_5, Nat.reduceAdd, fw_w_id, fw_wl_id, fw_r_k, fw_r_j, fw_r_s, fw_r_x, if_true, if_false]
theorem op_leavingByTrays {t x : Int} {σ : fw_M} (ht : t ≤ 1600) (h : fg_INV t σ) : fg_OK t (fun σ => fw_E 197 0 [(2, 1), (0, x), (2, 54), (8, 0)] [] σ) (fun σ => fw_E 148 0 [(2, 32), (0, x)] [] σ) σ := by
  have t0 := h.2.1
  have hp := h.1.1.2
  by_cases c1 : 1 ≤ x ∧ x ≤ 200
  · obtain ⟨c', q1, q2, q3⟩ := fs_byTrays (a2 := (8, 0)) (a3 := (8, 0)) (a4 := (8, 0)) (fg_MN_of h.1) (by omega) (by omega) c1
    obtain ⟨m', w1, w2, w3⟩ := fg_fore (a2 := (8, 0)) (a3 := (8, 0)) (a4 := (8, 0)) ht h c1 q2 q3
    have r1 := fs_rTicks_t (σ := σ) c1
    refine fg_OK_fore (x := x) h q2 q3 ?_ ?_ w2 w3
    · simp (disch := first | assumption | first | omega | assumption | (simp (disch := omega) only [fw_w_id, fw_wl_id, fw_r_k, fw_r_j, fw_r_s]; omega) | (simp only [fw_ptr_1_8, fw_ptr_2_5, fw_ptr_2_6, fw_ptr_2_7, fw_ptr_2_8, fw_ptr_2_9, fw_ptr_8_2, fw_ptr_8_3, fw_ptr_11_2, fw_ptr_11_3, fw_ptr_11_4, fw_ptr_11_5, fw_ptr_11_6, fw_ptr_17_8, fw_ptr_18_2, fw_ptr_18_3, fw_ptr_25_1, fw_ptr_27_2, fw_ptr_28_1, fw_ptr_32_0, fw_ptr_32_1, fw_ptr_32_3, fw_ptr_32_7, fw_ptr_32_8, fw_ptr_32_9, fw_ptr_32_10, fw_ptr_32_15, fw_ptr_32_16, fw_ptr_32_17, fw_ptr_32_18, fw_ptr_32_19, fw_ptr_32_25, fw_ptr_32_29, fw_ptr_3, fw_ptr_4, fw_ptr_5, fw_ptr_6, fw_ptr_7, fw_ptr_9, fw_ptr_10, fw_ptr_13, fw_ptr_15, fw_ptr_16, fw_ptr_19, fw_ptr_20, fw_ptr_21, fw_ptr_22, fw_ptr_23, fw_ptr_24, fw_ptr_26, fw_ptr_29, fw_ptr_30, fw_ptr_31, fw_ptr_33, fw_ptr_34, fw_ptr_35, fw_ptr_36, fw_ptr_37, fw_ptr_38, fw_ptr_39, fw_ptr_40, fw_ptr_41, fw_ptr_42, fw_ptr_43, fw_ptr_44, fw_ptr_45, fw_ptr_46, fw_ptr_47, fw_ptr_48, fw_ptr_49, fw_ptr_50, fw_ptr_51, fw_ptr_52, fw_ptr_53, fw_ptr_54, fw_ptr_55, fw_ptr_12, fw_ptr_x, fw_ptr_hi, fw_ptr_b3, fw_ptr_b1, fw_ptr_b2, fw_ptr_b2_]; assumption)) only [fw_b_197_0, fw_b_197_12, fw_b_197_7, fw_b_197_9, fw_h197_0, fw_b_87_0, fw_b_87_4, fw_b_87_12, fw_c9_87, r1, q1, ↓if_pos, ↓if_neg, if_neg, if_pos, fw_bs, fw_cn_0, fw_cn_1, fw_cn_2, fw_cn_3, fw_cn_4, fw_cn_5, Nat.reduceAdd, fw_w_id, fw_wl_id, fw_r_k, fw_r_j, fw_r_s, fw_r_x, if_true, if_false]
    · rw [fw_b_148_0, w1, fw_bs, fw_cn_0, fw_b_148_5]
  · have r1 := fs_rTicks_f (σ := σ) c1
    have w1 := fs_la_no (m := fw_ex σ) (a2 := (8, 0)) (a3 := (8, 0)) (a4 := (8, 0)) c1
    refine fg_OK_err (k := 1) (b := 0) h (by decide) ?_ ?_
    · simp (disch := first | assumption | first | omega | assumption | (simp (disch := omega) only [fw_w_id, fw_wl_id, fw_r_k, fw_r_j, fw_r_s]; omega) | (simp only [fw_ptr_1_8, fw_ptr_2_5, fw_ptr_2_6, fw_ptr_2_7, fw_ptr_2_8, fw_ptr_2_9, fw_ptr_8_2, fw_ptr_8_3, fw_ptr_11_2, fw_ptr_11_3, fw_ptr_11_4, fw_ptr_11_5, fw_ptr_11_6, fw_ptr_17_8, fw_ptr_18_2, fw_ptr_18_3, fw_ptr_25_1, fw_ptr_27_2, fw_ptr_28_1, fw_ptr_32_0, fw_ptr_32_1, fw_ptr_32_3, fw_ptr_32_7, fw_ptr_32_8, fw_ptr_32_9, fw_ptr_32_10, fw_ptr_32_15, fw_ptr_32_16, fw_ptr_32_17, fw_ptr_32_18, fw_ptr_32_19, fw_ptr_32_25, fw_ptr_32_29, fw_ptr_3, fw_ptr_4, fw_ptr_5, fw_ptr_6, fw_ptr_7, fw_ptr_9, fw_ptr_10, fw_ptr_13, fw_ptr_15, fw_ptr_16, fw_ptr_19, fw_ptr_20, fw_ptr_21, fw_ptr_22, fw_ptr_23, fw_ptr_24, fw_ptr_26, fw_ptr_29, fw_ptr_30, fw_ptr_31, fw_ptr_33, fw_ptr_34, fw_ptr_35, fw_ptr_36, fw_ptr_37, fw_ptr_38, fw_ptr_39, fw_ptr_40, fw_ptr_41, fw_ptr_42, fw_ptr_43, fw_ptr_44, fw_ptr_45, fw_ptr_46, fw_ptr_47, fw_ptr_48, fw_ptr_49, fw_ptr_50, fw_ptr_51, fw_ptr_52, fw_ptr_53, fw_ptr_54, fw_ptr_55, fw_ptr_12, fw_ptr_x, fw_ptr_hi, fw_ptr_b3, fw_ptr_b1, fw_ptr_b2, fw_ptr_b2_]; assumption)) only [fw_b_197_0, fw_b_197_12, fw_b_197_7, fw_b_197_9, fw_h197_0, fw_b_87_0, fw_b_87_4, fw_b_87_12, fw_c9_87, r1, ↓if_pos, ↓if_neg, if_neg, if_pos, fw_bs, fw_cn_0, fw_cn_1, fw_cn_2, fw_cn_3, fw_cn_4, fw_cn_5, Nat.reduceAdd, fw_w_id, fw_wl_id, fw_r_k, fw_r_j, fw_r_s, fw_r_x, if_true, if_false]
    · rw [fw_b_148_0, w1, fw_bs, fw_cn_0, fw_b_148_5]
