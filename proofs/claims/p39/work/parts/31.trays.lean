/-! what a tick of the look ahead leaves, place by place -/
theorem fg_dv_lc {x : fw_M} {i j : Int} (h1 : fw_r x 34 j ≠ fw_r x 34 i) (h2 : j ≠ i) : fg_dv (fg_lc x i) j = fg_dv x j := by
  unfold fg_dv
  simp (disch := omega) only [fg_lc_o]
theorem fg_lcn_o : ∀ (k : Nat) (i : Int) (x : fw_M) (a b : Int), a ≠ 33 → a ≠ 42 → fw_r (fg_lcn x i k) a b = fw_r x a b := by
  intro k
  induction k with
  | zero => intro i x a b h1 h2; rfl
  | succ k ih => intro i x a b h1 h2; rw [fg_lcn, ih _ _ _ _ h1 h2, fg_lc_o x i (Or.inl h1) (Or.inl h2)]
theorem fg_lcn_all : ∀ (k : Nat) (i M : Int) (x : fw_M), fg_ML M x → 0 ≤ i → i + k = fw_r x 32 3 → (∀ p, (∀ j, i ≤ j → j < i + k → fw_r x 34 j ≠ p) → fw_r (fg_lcn x i k) 33 p = fw_r x 33 p) ∧ (∀ j, i ≤ j → j < i + k → fw_r (fg_lcn x i k) 33 (fw_r x 34 j) = (if fg_dv x j = 1 then -1 else fw_r x 33 (fw_r x 34 j)) ∧ fw_r (fg_lcn x i k) 42 j = fw_r x 42 j + fg_dv x j) ∧ (∀ j, j < i → fw_r (fg_lcn x i k) 42 j = fw_r x 42 j) ∧ fg_lcs x i k = fg_sf (fg_dv x) i k := by
  intro k
  induction k with
  | zero =>
    intro i M x h h0 h1
    exact ⟨fun p hp => rfl, fun j a b => by omega, fun j a => rfl, rfl⟩
  | succ k ih =>
    intro i M x h h0 h1
    have hinj := h.1.2.2.2.2.2.1
    have e3 : fw_r (fg_lc x i) 32 3 = fw_r x 32 3 := fg_lc_n x i 32 (by decide) (by decide) 3
    obtain ⟨q1, q2, q3, q4⟩ := ih (i + 1) M (fg_lc x i) (fg_ML_lc h h0 (by omega)) (by omega) (by rw [e3]; omega)
    have e34 : ∀ j, fw_r (fg_lc x i) 34 j = fw_r x 34 j := fun j => fg_lc_o x i (Or.inl (by decide)) (Or.inl (by decide))
    have hne : ∀ j, i + 1 ≤ j → j < i + 1 + k → fw_r x 34 j ≠ fw_r x 34 i := fun j a b e => by
      have := hinj j i (by omega) (by omega) h0 (by omega) e
      omega
    simp only [e34] at q1 q2
    refine ⟨fun p hp => ?_, fun j a b => ?_, fun j a => ?_, ?_⟩
    · rw [fg_lcn, q1 p (fun j a b => hp j (by omega) (by omega)), fg_lc_o x i (Or.inr (fun e => hp i (by omega) (by omega) e.symm)) (Or.inl (by decide))]
    · rw [fg_lcn]
      by_cases hj : j = i
      · subst hj
        rw [q1 _ (fun l a b => hne l a b), q3 j (by omega)]
        rcases fg_dv_01 x j with hd | hd
        · rw [fg_lc_0 hd, if_neg (by omega), hd]; exact ⟨rfl, (Int.add_zero _).symm⟩
        · have e : fg_lc x j = fw_u (fw_u x 33 (fw_r x 34 j) (-1)) 42 j (fw_r x 42 j + 1) := by unfold fg_lc; rw [if_pos hd]
          rw [e, fw_r_k _ (by decide), fw_r_s, if_pos hd, fw_r_s, hd]; exact ⟨rfl, rfl⟩
      · have hn := hne j (by omega) (by omega)
        have := q2 j (by omega) (by omega)
        rw [fg_dv_lc hn hj, fg_lc_o x i (Or.inr hn) (Or.inl (by decide)), fg_lc_o x i (Or.inl (by decide)) (Or.inr hj)] at this
        exact this
    · rw [fg_lcn, q3 j (by omega), fg_lc_o x i (Or.inl (by decide)) (Or.inr (by omega))]
    · rw [fg_lcs, q4, fg_sf]
      congr 1
      exact fg_sf_ext k (i + 1) (fun j a b => fg_dv_lc (hne j a b) (by omega))
theorem fg_ov_lcn {x : fw_M} {M : Int} (h : fg_ML M x) {k : Nat} (hk : (k : Int) = fw_r x 32 3) : fg_ov (fg_lcn x 0 k) = fg_ov x ∧ fg_lv (fg_lo (fg_lcn x 0 k)) = fg_lv x := by
  obtain ⟨q1, q2, q3, q4⟩ := fg_lcn_all k 0 M x h (by omega) (by omega)
  have hc := h.1.2.2.2.2.1
  have hN := h.1.2.2.1
  have eN : fw_r (fg_lcn x 0 k) 32 1 = fw_r x 32 1 := fg_lcn_o k 0 x 32 1 (by decide) (by decide)
  have e1 : fw_r (fg_lcn x 0 k) 33 (fw_r x 32 1 - 1) = fw_r x 33 (fw_r x 32 1 - 1) := q1 _ (fun j a b e => by have := hc j a (by omega); omega)
  have e0 : fw_r (fg_lcn x 0 k) 33 0 = fw_r x 33 0 := q1 _ (fun j a b e => by have := hc j a (by omega); omega)
  constructor
  · unfold fg_ov
    rw [eN, e1, fg_lcn_o k 0 x 32 8 (by decide) (by decide), fg_lcn_o k 0 x 32 9 (by decide) (by decide), fg_lcn_o k 0 x 40 _ (by decide) (by decide)]
  · rw [fg_lv_lo (by omega)]
    unfold fg_lv
    rw [e0, fg_lcn_o k 0 x 32 7 (by decide) (by decide), fg_lcn_o k 0 x 32 15 (by decide) (by decide), fg_lcn_o k 0 x 32 10 (by decide) (by decide)]
/-- the state after a tick of the look ahead, place by place -/
theorem fg_T2_cf {m : fw_M} {M : Int} (h : fg_ML M m) :
    (∀ p, 1 ≤ p → p ≤ fw_r m 32 1 - 2 → (∀ i, 0 ≤ i → i < fw_r m 32 3 → fw_r m 34 i ≠ p) → fw_r (fg_T2 m) 33 p = fw_r (fg_mvs m) 33 p) ∧
    (∀ i, 0 ≤ i → i < fw_r m 32 3 → fw_r (fg_T2 m) 33 (fw_r m 34 i) = (if fg_dv (fg_mvs m) i = 1 then -1 else fw_r (fg_mvs m) 33 (fw_r m 34 i)) ∧ fw_r (fg_T2 m) 42 i = fw_r m 42 i + fg_dv (fg_mvs m) i) ∧
    fw_r (fg_T2 m) 33 (fw_r m 32 1 - 1) = (if fg_ov (fg_mvs m) = 1 then -1 else fw_r (fg_mvs m) 33 (fw_r m 32 1 - 1)) ∧
    fw_r (fg_T2 m) 33 0 = (if fg_lv (fg_mvs m) = 1 then fw_r m 32 15 else fw_r (fg_mvs m) 33 0) ∧
    fw_r (fg_T2 m) 32 15 = fw_r m 32 15 + fg_lv (fg_mvs m) ∧ (∀ j, fw_r (fg_T2 m) 40 j = fw_r (fg_mvs m) 40 j) ∧
    fg_C2 m = fg_sf (fg_dv (fg_mvs m)) 0 (fg_n m) + fg_ov (fg_mvs m) := by
  have h1 := fg_ML_mvs h
  have hn := h.1.2.1
  have hN := h.1.2.2.1
  have hc := h.1.2.2.2.2.1
  have e : fw_r (fg_mvs m) 32 3 = fw_r m 32 3 := fg_mvs_o m (by decide) (by decide)
  have eN : fw_r (fg_mvs m) 32 1 = fw_r m 32 1 := fg_mvs_o m (by decide) (by decide)
  have e34 : ∀ j, fw_r (fg_mvs m) 34 j = fw_r m 34 j := fun j => fg_mvs_o m (by decide) (by decide)
  have e42 : ∀ j, fw_r (fg_mvs m) 42 j = fw_r m 42 j := fun j => fg_mvs_o m (by decide) (by decide)
  have e15 : fw_r (fg_mvs m) 32 15 = fw_r m 32 15 := fg_mvs_o m (by decide) (by decide)
  have hk : ((fg_n m : Nat) : Int) = fw_r m 32 3 := by unfold fg_n; omega
  obtain ⟨q1, q2, q3, q4⟩ := fg_lcn_all (fg_n m) 0 (M + 1) (fg_mvs m) h1 (by omega) (by omega)
  obtain ⟨r1, r2⟩ := fg_ov_lcn h1 (k := fg_n m) (by omega)
  simp only [e34, e42] at q1 q2
  have eL : fw_r (fg_lcn (fg_mvs m) 0 (fg_n m)) 32 1 = fw_r m 32 1 := (fg_lcn_o _ _ _ _ _ (by decide) (by decide)).trans eN
  have hT : ∀ p, 1 ≤ p → p ≤ fw_r m 32 1 - 2 → fw_r (fg_T2 m) 33 p = fw_r (fg_lcn (fg_mvs m) 0 (fg_n m)) 33 p := fun p a b => by
    unfold fg_T2
    rw [fg_ll_o _ (Or.inr (by omega)) (Or.inl (by decide)), fg_lo_o _ (Or.inr (by rw [eL]; omega))]
  refine ⟨fun p a b hp => ?_, fun i a b => ⟨?_, ?_⟩, ?_, ?_, ?_, fun j => ?_, ?_⟩
  · rw [hT p a b, q1 p (fun j a b => hp j a (by omega))]
  · have := hc i a b
    rw [hT _ (by omega) (by omega), (q2 i a (by omega)).1]
  · unfold fg_T2
    rw [fg_ll_o _ (Or.inl (by decide)) (Or.inl (by decide)), fg_lo_o _ (Or.inl (by decide)), (q2 i a (by omega)).2]
  · unfold fg_T2
    rw [fg_ll_o _ (Or.inr (by omega)) (Or.inl (by decide))]
    have e1 : fw_r (fg_lcn (fg_mvs m) 0 (fg_n m)) 33 (fw_r m 32 1 - 1) = fw_r (fg_mvs m) 33 (fw_r m 32 1 - 1) := q1 _ (fun j a b e => by have := hc j a (by omega); omega)
    unfold fg_lo
    rw [r1]
    split
    · rw [eL, fw_r_s]
    · exact e1
  · have e0 : fw_r (fg_lo (fg_lcn (fg_mvs m) 0 (fg_n m))) 33 0 = fw_r (fg_mvs m) 33 0 := by
      rw [fg_lo_o _ (Or.inr (by rw [eL]; omega)), q1 _ (fun j a b e => by have := hc j a (by omega); omega)]
    have e5 : fw_r (fg_lo (fg_lcn (fg_mvs m) 0 (fg_n m))) 32 15 = fw_r m 32 15 := by
      rw [fg_lo_o _ (Or.inl (by decide)), fg_lcn_o _ _ _ _ _ (by decide) (by decide), e15]
    unfold fg_T2 fg_ll
    rw [r2]
    split
    · rw [fw_r_k _ (by decide), fw_r_s, e5]
    · exact e0
  · have e5 : fw_r (fg_lo (fg_lcn (fg_mvs m) 0 (fg_n m))) 32 15 = fw_r m 32 15 := by
      rw [fg_lo_o _ (Or.inl (by decide)), fg_lcn_o _ _ _ _ _ (by decide) (by decide), e15]
    unfold fg_T2 fg_ll
    rw [r2]
    have := fg_lv_01 (fg_mvs m)
    split
    · rw [fw_r_s, e5]; omega
    · rw [e5]; omega
  · unfold fg_T2
    rw [fg_ll_o _ (Or.inl (by decide)) (Or.inl (by decide)), fg_lo_o _ (Or.inl (by decide)), fg_lcn_o _ _ _ _ _ (by decide) (by decide)]
  · unfold fg_C2
    rw [q4, r1]
/-! the class's second look ahead: tray by tray -/
def fg_q (N r s : Int) : Int := if s + r < N then s + r else s + r - N
def fg_nq (N q : Int) : Int := if q + 1 < N then q + 1 else 0
theorem fs_mt_0n {c : fw_M} {t F : Int} {a2 a3 : fw_V} (hp : fw_ptr c) (h0 : 0 ≤ t) (h1 : t < 20) (hq : ¬(fw_r c 21 t < fw_r c 11 3)) (hr : 0 ≤ fw_r c 23 t ∧ fw_r c 23 t ≤ 1000000000) (hl : ¬fg_lp c (fw_r c 22 t) (fw_r c 17 8) (fw_r c 2 5)) : fw_E 29 0 [(2, 17), (0, t), a2, a3] [] c = some ((0, 0), fw_u (fw_u c 21 t 0) 23 t (fw_r c 23 t + 1)) := by
  have hl2 : ¬fg_lp (fw_u (fw_u c 21 t 0) 23 t (fw_r c 23 t + 1)) (fw_r c 22 t) (fw_r c 17 8) (fw_r c 2 5) := by
    unfold fg_lp at hl ⊢
    rw [fw_r_k _ (by decide), fw_r_k _ (by decide)]; exact hl
  simp (disch := first | omega | assumption | (simp (disch := omega) only [fw_w_id, fw_wl_id, fw_r_k, fw_r_j, fw_r_s]; omega) | (simp only [fw_ptr_32_0, fl_ptr_32_0, fw_ptr_32_1, fl_ptr_32_1, fw_ptr_32_2, fw_ptr_32_3, fw_ptr_32_4, fw_ptr_32_5, fl_ptr_32_5, fw_ptr_32_6, fw_ptr_32_7, fw_ptr_32_8, fw_ptr_32_9, fw_ptr_32_10, fl_ptr_32_10, fw_ptr_32_11, fl_ptr_32_11, fw_ptr_32_12, fw_ptr_32_13, fw_ptr_32_14, fw_ptr_32_15, fw_ptr_32_16, fw_ptr_32_17, fl_ptr_32_17, fw_ptr_32_18, fl_ptr_32_18, fw_ptr_32_19, fl_ptr_32_19, fw_ptr_32_20, fl_ptr_32_20, fw_ptr_32_21, fl_ptr_32_21, fw_ptr_32_22, fl_ptr_32_22, fw_ptr_32_23, fw_ptr_32_24, fw_ptr_32_25, fw_ptr_32_26, fw_ptr_32_27, fw_ptr_32_28, fw_ptr_32_29, fw_ptr_32_30, fw_ptr_32_31, fw_ptr_32_32, fw_ptr_32_33, fw_ptr_32_34, fw_ptr_32_35, fw_ptr_1_8, fw_ptr_2_5, fw_ptr_2_6, fw_ptr_2_7, fw_ptr_2_8, fw_ptr_2_9, fw_ptr_8_2, fw_ptr_8_3, fw_ptr_11_2, fw_ptr_11_3, fw_ptr_11_4, fw_ptr_11_5, fw_ptr_11_6, fw_ptr_17_8, fw_ptr_18_2, fw_ptr_18_3, fw_ptr_25_1, fw_ptr_27_2, fw_ptr_28_1, fl_ptr_33, fl_ptr_34, fl_ptr_35, fl_ptr_36, fl_ptr_38, fl_ptr_39, fl_ptr_40, fl_ptr_41, fl_ptr_42, fl_ptr_43, fl_ptr_44, fl_ptr_45, fl_ptr_46, fl_ptr_47, fl_ptr_48, fl_ptr_49, fl_ptr_50, fw_ptr_3, fw_ptr_4, fw_ptr_5, fw_ptr_6, fw_ptr_7, fw_ptr_9, fw_ptr_10, fw_ptr_13, fw_ptr_15, fw_ptr_16, fw_ptr_19, fw_ptr_20, fw_ptr_21, fw_ptr_22, fw_ptr_23, fw_ptr_24, fw_ptr_26, fw_ptr_29, fw_ptr_30, fw_ptr_31, fw_ptr_33, fw_ptr_34, fw_ptr_35, fw_ptr_36, fw_ptr_37, fw_ptr_38, fw_ptr_39, fw_ptr_40, fw_ptr_41, fw_ptr_42, fw_ptr_43, fw_ptr_44, fw_ptr_45, fw_ptr_46, fw_ptr_47, fw_ptr_48, fw_ptr_49, fw_ptr_50, fw_ptr_51, fw_ptr_52, fw_ptr_53, fw_ptr_54, fw_ptr_55, fw_ptr_12, fw_ptr_x, fw_ptr_hi, fw_ptr_b3, fw_ptr_b1, fw_ptr_b2, fw_ptr_b2_, fl_ptr_x, fl_ptr_hi, fl_ptr_lo, fl_ptr_in]; assumption)) only [fw_b_29_0, fw_b_29_4, fw_b_29_12, fw_b_29_39, fw_b_29_48, fw_b_29_52, fw_b_29_62, fw_b_29_67, fw_b_30_0, fw_b_30_4, fw_b_30_10, fw_b_30_11, fw_b_30_35, fw_b_30_38, fw_b_30_48, fw_b_30_55, fw_b_30_65, fs_loaderPuts_f, ↓if_pos, ↓if_neg, if_neg, if_pos, fw_bs, fw_cn_0, fw_cn_1, fw_cn_2, fw_cn_3, fw_cn_4, fw_cn_5, Nat.reduceAdd, fw_w_id, fw_wl_id, fw_r_k, fw_r_j, fw_r_s, fw_r_x, if_true, if_false]
theorem fs_mt_0y {c : fw_M} {t : Int} {a2 a3 : fw_V} (hp : fw_ptr c) (h0 : 0 ≤ t) (h1 : t < 20) (hq : ¬(fw_r c 21 t < fw_r c 11 3)) (hr : 0 ≤ fw_r c 23 t ∧ fw_r c 23 t ≤ 1000000000) (hF : 0 ≤ fw_r c 17 8 ∧ fw_r c 17 8 ≤ 300) (hl : fg_lp c (fw_r c 22 t) (fw_r c 17 8) (fw_r c 2 5)) : fw_E 29 0 [(2, 17), (0, t), a2, a3] [] c = some ((0, 0), fw_u (fw_u (fw_u (fw_u (fw_u c 21 t 0) 23 t (fw_r c 23 t + 1)) 22 t (fw_r c 17 8)) 23 t 0) 17 8 (fw_r c 17 8 + 1)) := by
  have hl2 : fg_lp (fw_u (fw_u c 21 t 0) 23 t (fw_r c 23 t + 1)) (fw_r c 22 t) (fw_r c 17 8) (fw_r c 2 5) := by
    unfold fg_lp at hl ⊢
    rw [fw_r_k _ (by decide), fw_r_k _ (by decide)]; exact hl
  simp (disch := first | omega | assumption | (simp (disch := omega) only [fw_w_id, fw_wl_id, fw_r_k, fw_r_j, fw_r_s]; omega) | (simp only [fw_ptr_32_0, fl_ptr_32_0, fw_ptr_32_1, fl_ptr_32_1, fw_ptr_32_2, fw_ptr_32_3, fw_ptr_32_4, fw_ptr_32_5, fl_ptr_32_5, fw_ptr_32_6, fw_ptr_32_7, fw_ptr_32_8, fw_ptr_32_9, fw_ptr_32_10, fl_ptr_32_10, fw_ptr_32_11, fl_ptr_32_11, fw_ptr_32_12, fw_ptr_32_13, fw_ptr_32_14, fw_ptr_32_15, fw_ptr_32_16, fw_ptr_32_17, fl_ptr_32_17, fw_ptr_32_18, fl_ptr_32_18, fw_ptr_32_19, fl_ptr_32_19, fw_ptr_32_20, fl_ptr_32_20, fw_ptr_32_21, fl_ptr_32_21, fw_ptr_32_22, fl_ptr_32_22, fw_ptr_32_23, fw_ptr_32_24, fw_ptr_32_25, fw_ptr_32_26, fw_ptr_32_27, fw_ptr_32_28, fw_ptr_32_29, fw_ptr_32_30, fw_ptr_32_31, fw_ptr_32_32, fw_ptr_32_33, fw_ptr_32_34, fw_ptr_32_35, fw_ptr_1_8, fw_ptr_2_5, fw_ptr_2_6, fw_ptr_2_7, fw_ptr_2_8, fw_ptr_2_9, fw_ptr_8_2, fw_ptr_8_3, fw_ptr_11_2, fw_ptr_11_3, fw_ptr_11_4, fw_ptr_11_5, fw_ptr_11_6, fw_ptr_17_8, fw_ptr_18_2, fw_ptr_18_3, fw_ptr_25_1, fw_ptr_27_2, fw_ptr_28_1, fl_ptr_33, fl_ptr_34, fl_ptr_35, fl_ptr_36, fl_ptr_38, fl_ptr_39, fl_ptr_40, fl_ptr_41, fl_ptr_42, fl_ptr_43, fl_ptr_44, fl_ptr_45, fl_ptr_46, fl_ptr_47, fl_ptr_48, fl_ptr_49, fl_ptr_50, fw_ptr_3, fw_ptr_4, fw_ptr_5, fw_ptr_6, fw_ptr_7, fw_ptr_9, fw_ptr_10, fw_ptr_13, fw_ptr_15, fw_ptr_16, fw_ptr_19, fw_ptr_20, fw_ptr_21, fw_ptr_22, fw_ptr_23, fw_ptr_24, fw_ptr_26, fw_ptr_29, fw_ptr_30, fw_ptr_31, fw_ptr_33, fw_ptr_34, fw_ptr_35, fw_ptr_36, fw_ptr_37, fw_ptr_38, fw_ptr_39, fw_ptr_40, fw_ptr_41, fw_ptr_42, fw_ptr_43, fw_ptr_44, fw_ptr_45, fw_ptr_46, fw_ptr_47, fw_ptr_48, fw_ptr_49, fw_ptr_50, fw_ptr_51, fw_ptr_52, fw_ptr_53, fw_ptr_54, fw_ptr_55, fw_ptr_12, fw_ptr_x, fw_ptr_hi, fw_ptr_b3, fw_ptr_b1, fw_ptr_b2, fw_ptr_b2_, fl_ptr_x, fl_ptr_hi, fl_ptr_lo, fl_ptr_in]; assumption)) only [fw_b_29_0, fw_b_29_4, fw_b_29_12, fw_b_29_39, fw_b_29_48, fw_b_29_52, fw_b_29_62, fw_b_29_67, fw_b_30_0, fw_b_30_4, fw_b_30_10, fw_b_30_11, fw_b_30_35, fw_b_30_38, fw_b_30_48, fw_b_30_55, fw_b_30_65, fs_loaderPuts_t, ↓if_pos, ↓if_neg, if_neg, if_pos, fw_bs, fw_cn_0, fw_cn_1, fw_cn_2, fw_cn_3, fw_cn_4, fw_cn_5, Nat.reduceAdd, fw_w_id, fw_wl_id, fw_r_k, fw_r_j, fw_r_s, fw_r_x, if_true, if_false]
theorem fs_mt_o {c : fw_M} {t v : Int} {a2 a3 : fw_V} (hp : fw_ptr c) (h0 : 0 ≤ t) (h1 : t < 20) (hq : fw_r c 21 t + 1 = fw_r c 11 3) (hN : 0 ≤ fw_r c 21 t ∧ fw_r c 11 3 < 20) (hv : (v = 1 ∧ fg_ot c (fw_r c 22 t) (fw_r c 23 t)) ∨ (v = 0 ∧ ¬fg_ot c (fw_r c 22 t) (fw_r c 23 t))) : fw_E 29 0 [(2, 17), (0, t), a2, a3] [] c = some ((0, v), if v = 1 then fw_u (fw_u c 21 t (fw_r c 11 3)) 22 t (-1) else fw_u c 21 t (fw_r c 11 3)) := by
  have hi : fg_ot (fw_u c 21 t (fw_r c 11 3)) (fw_r c 22 t) (fw_r c 23 t) ↔ fg_ot c (fw_r c 22 t) (fw_r c 23 t) := by
    unfold fg_ot
    rw [fw_r_k _ (by decide), fw_r_k _ (by decide)]
  rcases hv with ⟨rfl, hv⟩ | ⟨rfl, hv⟩
  · have hv2 := hi.mpr hv
    simp (disch := first | omega | assumption | (simp (disch := omega) only [fw_w_id, fw_wl_id, fw_r_k, fw_r_j, fw_r_s]; omega) | (simp only [fw_ptr_32_0, fl_ptr_32_0, fw_ptr_32_1, fl_ptr_32_1, fw_ptr_32_2, fw_ptr_32_3, fw_ptr_32_4, fw_ptr_32_5, fl_ptr_32_5, fw_ptr_32_6, fw_ptr_32_7, fw_ptr_32_8, fw_ptr_32_9, fw_ptr_32_10, fl_ptr_32_10, fw_ptr_32_11, fl_ptr_32_11, fw_ptr_32_12, fw_ptr_32_13, fw_ptr_32_14, fw_ptr_32_15, fw_ptr_32_16, fw_ptr_32_17, fl_ptr_32_17, fw_ptr_32_18, fl_ptr_32_18, fw_ptr_32_19, fl_ptr_32_19, fw_ptr_32_20, fl_ptr_32_20, fw_ptr_32_21, fl_ptr_32_21, fw_ptr_32_22, fl_ptr_32_22, fw_ptr_32_23, fw_ptr_32_24, fw_ptr_32_25, fw_ptr_32_26, fw_ptr_32_27, fw_ptr_32_28, fw_ptr_32_29, fw_ptr_32_30, fw_ptr_32_31, fw_ptr_32_32, fw_ptr_32_33, fw_ptr_32_34, fw_ptr_32_35, fw_ptr_1_8, fw_ptr_2_5, fw_ptr_2_6, fw_ptr_2_7, fw_ptr_2_8, fw_ptr_2_9, fw_ptr_8_2, fw_ptr_8_3, fw_ptr_11_2, fw_ptr_11_3, fw_ptr_11_4, fw_ptr_11_5, fw_ptr_11_6, fw_ptr_17_8, fw_ptr_18_2, fw_ptr_18_3, fw_ptr_25_1, fw_ptr_27_2, fw_ptr_28_1, fl_ptr_33, fl_ptr_34, fl_ptr_35, fl_ptr_36, fl_ptr_38, fl_ptr_39, fl_ptr_40, fl_ptr_41, fl_ptr_42, fl_ptr_43, fl_ptr_44, fl_ptr_45, fl_ptr_46, fl_ptr_47, fl_ptr_48, fl_ptr_49, fl_ptr_50, fw_ptr_3, fw_ptr_4, fw_ptr_5, fw_ptr_6, fw_ptr_7, fw_ptr_9, fw_ptr_10, fw_ptr_13, fw_ptr_15, fw_ptr_16, fw_ptr_19, fw_ptr_20, fw_ptr_21, fw_ptr_22, fw_ptr_23, fw_ptr_24, fw_ptr_26, fw_ptr_29, fw_ptr_30, fw_ptr_31, fw_ptr_33, fw_ptr_34, fw_ptr_35, fw_ptr_36, fw_ptr_37, fw_ptr_38, fw_ptr_39, fw_ptr_40, fw_ptr_41, fw_ptr_42, fw_ptr_43, fw_ptr_44, fw_ptr_45, fw_ptr_46, fw_ptr_47, fw_ptr_48, fw_ptr_49, fw_ptr_50, fw_ptr_51, fw_ptr_52, fw_ptr_53, fw_ptr_54, fw_ptr_55, fw_ptr_12, fw_ptr_x, fw_ptr_hi, fw_ptr_b3, fw_ptr_b1, fw_ptr_b2, fw_ptr_b2_, fl_ptr_x, fl_ptr_hi, fl_ptr_lo, fl_ptr_in]; assumption)) only [fw_b_29_0, fw_b_29_4, fw_b_29_12, fw_b_29_28, fw_b_29_48, fw_b_29_69, fw_b_29_80, fw_b_29_99, fw_b_29_127, fw_b_29_134, fs_overflowTakes_t, hq, ↓if_pos, ↓if_neg, if_neg, if_pos, fw_bs, fw_cn_0, fw_cn_1, fw_cn_2, fw_cn_3, fw_cn_4, fw_cn_5, Nat.reduceAdd, fw_w_id, fw_wl_id, fw_r_k, fw_r_j, fw_r_s, fw_r_x, if_true, if_false]
  · have hv2 : ¬fg_ot (fw_u c 21 t (fw_r c 11 3)) (fw_r c 22 t) (fw_r c 23 t) := fun h => hv (hi.mp h)
    simp (disch := first | omega | assumption | (simp (disch := omega) only [fw_w_id, fw_wl_id, fw_r_k, fw_r_j, fw_r_s]; omega) | (simp only [fw_ptr_32_0, fl_ptr_32_0, fw_ptr_32_1, fl_ptr_32_1, fw_ptr_32_2, fw_ptr_32_3, fw_ptr_32_4, fw_ptr_32_5, fl_ptr_32_5, fw_ptr_32_6, fw_ptr_32_7, fw_ptr_32_8, fw_ptr_32_9, fw_ptr_32_10, fl_ptr_32_10, fw_ptr_32_11, fl_ptr_32_11, fw_ptr_32_12, fw_ptr_32_13, fw_ptr_32_14, fw_ptr_32_15, fw_ptr_32_16, fw_ptr_32_17, fl_ptr_32_17, fw_ptr_32_18, fl_ptr_32_18, fw_ptr_32_19, fl_ptr_32_19, fw_ptr_32_20, fl_ptr_32_20, fw_ptr_32_21, fl_ptr_32_21, fw_ptr_32_22, fl_ptr_32_22, fw_ptr_32_23, fw_ptr_32_24, fw_ptr_32_25, fw_ptr_32_26, fw_ptr_32_27, fw_ptr_32_28, fw_ptr_32_29, fw_ptr_32_30, fw_ptr_32_31, fw_ptr_32_32, fw_ptr_32_33, fw_ptr_32_34, fw_ptr_32_35, fw_ptr_1_8, fw_ptr_2_5, fw_ptr_2_6, fw_ptr_2_7, fw_ptr_2_8, fw_ptr_2_9, fw_ptr_8_2, fw_ptr_8_3, fw_ptr_11_2, fw_ptr_11_3, fw_ptr_11_4, fw_ptr_11_5, fw_ptr_11_6, fw_ptr_17_8, fw_ptr_18_2, fw_ptr_18_3, fw_ptr_25_1, fw_ptr_27_2, fw_ptr_28_1, fl_ptr_33, fl_ptr_34, fl_ptr_35, fl_ptr_36, fl_ptr_38, fl_ptr_39, fl_ptr_40, fl_ptr_41, fl_ptr_42, fl_ptr_43, fl_ptr_44, fl_ptr_45, fl_ptr_46, fl_ptr_47, fl_ptr_48, fl_ptr_49, fl_ptr_50, fw_ptr_3, fw_ptr_4, fw_ptr_5, fw_ptr_6, fw_ptr_7, fw_ptr_9, fw_ptr_10, fw_ptr_13, fw_ptr_15, fw_ptr_16, fw_ptr_19, fw_ptr_20, fw_ptr_21, fw_ptr_22, fw_ptr_23, fw_ptr_24, fw_ptr_26, fw_ptr_29, fw_ptr_30, fw_ptr_31, fw_ptr_33, fw_ptr_34, fw_ptr_35, fw_ptr_36, fw_ptr_37, fw_ptr_38, fw_ptr_39, fw_ptr_40, fw_ptr_41, fw_ptr_42, fw_ptr_43, fw_ptr_44, fw_ptr_45, fw_ptr_46, fw_ptr_47, fw_ptr_48, fw_ptr_49, fw_ptr_50, fw_ptr_51, fw_ptr_52, fw_ptr_53, fw_ptr_54, fw_ptr_55, fw_ptr_12, fw_ptr_x, fw_ptr_hi, fw_ptr_b3, fw_ptr_b1, fw_ptr_b2, fw_ptr_b2_, fl_ptr_x, fl_ptr_hi, fl_ptr_lo, fl_ptr_in]; assumption)) only [fw_b_29_0, fw_b_29_4, fw_b_29_12, fw_b_29_28, fw_b_29_48, fw_b_29_69, fw_b_29_80, fw_b_29_99, fw_b_29_125, fs_overflowTakes_f, hq, ↓if_pos, ↓if_neg, if_neg, if_pos, fw_bs, fw_cn_0, fw_cn_1, fw_cn_2, fw_cn_3, fw_cn_4, fw_cn_5, Nat.reduceAdd, fw_w_id, fw_wl_id, fw_r_k, fw_r_j, fw_r_s, fw_r_x, if_true, if_false]
theorem fg_na_c {c c' : fw_M} (h1 : fw_r c' 11 2 = fw_r c 11 2) (h2 : ∀ i, 0 ≤ i → fw_r c' (51 + 3 * i) 0 = fw_r c (51 + 3 * i) 0) (p : Int) : fg_na c' p = fg_na c p := by
  unfold fg_na
  rw [h1]
  exact fg_fa_ext _ _ (fun j a b => h2 j a)
theorem fs_mt_c {c m : fw_M} {t v : Int} {a2 a3 : fw_V} (h : fg_CF c m) (hF : 0 ≤ fw_r c 2 6 ∧ fw_r c 2 6 ≤ fw_r c 2 5) (h0 : 0 ≤ t) (h1 : t < 20) (hq : 0 ≤ fw_r c 21 t ∧ fw_r c 21 t + 1 < fw_r c 11 3) (hp22 : -1 ≤ fw_r c 22 t ∧ fw_r c 22 t < fw_r m 32 10)
    (hv : (v = 0 ∧ fg_na c (fw_r c 21 t + 1) = -1) ∨ (∃ i, fg_na c (fw_r c 21 t + 1) = i ∧ 0 ≤ i ∧ i < fw_r m 32 3 ∧ (0 ≤ fw_r c 24 i ∧ fw_r c 24 i ≤ 30) ∧ v = fg_tk m i (fw_r c 22 t) (fw_r c 24 i))) :
    fw_E 29 0 [(2, 17), (0, t), a2, a3] [] c = some ((0, v), if v = 1 then fw_u (fw_u (fw_u c 21 t (fw_r c 21 t + 1)) 24 (fg_na c (fw_r c 21 t + 1)) (fw_r c 24 (fg_na c (fw_r c 21 t + 1)) + 1)) 22 t (-1) else fw_u c 21 t (fw_r c 21 t + 1)) := by
  have hp := h.1.1
  have hN := h.2.1.1
  have hL := h.2.1.2.1
  have fr : fg_FR c (fw_u c 21 t (fw_r c 21 t + 1)) := fg_FR_u (fg_FR_refl c) (by decide) (by decide)
  have hp1 : fw_ptr (fw_u c 21 t (fw_r c 21 t + 1)) := by rw [fw_ptr_21]; exact hp
  have hcf1 := fg_CF_FR h hp1 fr
  have hk1 := hcf1.1.2.1
  have hna : fg_na (fw_u c 21 t (fw_r c 21 t + 1)) (fw_r c 21 t + 1) = fg_na c (fw_r c 21 t + 1) := fg_na_c (fw_r_k _ (by decide)) (fun i hi => fw_r_k _ (by omega)) _
  have hnum := fs_numberAt (p := fw_r c 21 t + 1) (a2 := (8, 0)) (a3 := (8, 0)) hp1 hk1
  rw [hna] at hnum
  have e22 : fw_r (fw_u c 21 t (fw_r c 21 t + 1)) 22 t = fw_r c 22 t := fw_r_k _ (by decide)
  rcases hv with ⟨rfl, hv⟩ | ⟨i, hi, i0, i1, i2, hv⟩
  · rw [hv] at hnum
    have hg := fs_gets_no (c := fw_u c 21 t (fw_r c 21 t + 1)) (p := fw_r c 22 t)
    simp (disch := first | omega | assumption | (simp (disch := omega) only [fw_w_id, fw_wl_id, fw_r_k, fw_r_j, fw_r_s]; omega) | (simp only [fw_ptr_32_0, fl_ptr_32_0, fw_ptr_32_1, fl_ptr_32_1, fw_ptr_32_2, fw_ptr_32_3, fw_ptr_32_4, fw_ptr_32_5, fl_ptr_32_5, fw_ptr_32_6, fw_ptr_32_7, fw_ptr_32_8, fw_ptr_32_9, fw_ptr_32_10, fl_ptr_32_10, fw_ptr_32_11, fl_ptr_32_11, fw_ptr_32_12, fw_ptr_32_13, fw_ptr_32_14, fw_ptr_32_15, fw_ptr_32_16, fw_ptr_32_17, fl_ptr_32_17, fw_ptr_32_18, fl_ptr_32_18, fw_ptr_32_19, fl_ptr_32_19, fw_ptr_32_20, fl_ptr_32_20, fw_ptr_32_21, fl_ptr_32_21, fw_ptr_32_22, fl_ptr_32_22, fw_ptr_32_23, fw_ptr_32_24, fw_ptr_32_25, fw_ptr_32_26, fw_ptr_32_27, fw_ptr_32_28, fw_ptr_32_29, fw_ptr_32_30, fw_ptr_32_31, fw_ptr_32_32, fw_ptr_32_33, fw_ptr_32_34, fw_ptr_32_35, fw_ptr_1_8, fw_ptr_2_5, fw_ptr_2_6, fw_ptr_2_7, fw_ptr_2_8, fw_ptr_2_9, fw_ptr_8_2, fw_ptr_8_3, fw_ptr_11_2, fw_ptr_11_3, fw_ptr_11_4, fw_ptr_11_5, fw_ptr_11_6, fw_ptr_17_8, fw_ptr_18_2, fw_ptr_18_3, fw_ptr_25_1, fw_ptr_27_2, fw_ptr_28_1, fl_ptr_33, fl_ptr_34, fl_ptr_35, fl_ptr_36, fl_ptr_38, fl_ptr_39, fl_ptr_40, fl_ptr_41, fl_ptr_42, fl_ptr_43, fl_ptr_44, fl_ptr_45, fl_ptr_46, fl_ptr_47, fl_ptr_48, fl_ptr_49, fl_ptr_50, fw_ptr_3, fw_ptr_4, fw_ptr_5, fw_ptr_6, fw_ptr_7, fw_ptr_9, fw_ptr_10, fw_ptr_13, fw_ptr_15, fw_ptr_16, fw_ptr_19, fw_ptr_20, fw_ptr_21, fw_ptr_22, fw_ptr_23, fw_ptr_24, fw_ptr_26, fw_ptr_29, fw_ptr_30, fw_ptr_31, fw_ptr_33, fw_ptr_34, fw_ptr_35, fw_ptr_36, fw_ptr_37, fw_ptr_38, fw_ptr_39, fw_ptr_40, fw_ptr_41, fw_ptr_42, fw_ptr_43, fw_ptr_44, fw_ptr_45, fw_ptr_46, fw_ptr_47, fw_ptr_48, fw_ptr_49, fw_ptr_50, fw_ptr_51, fw_ptr_52, fw_ptr_53, fw_ptr_54, fw_ptr_55, fw_ptr_12, fw_ptr_x, fw_ptr_hi, fw_ptr_b3, fw_ptr_b1, fw_ptr_b2, fw_ptr_b2_, fl_ptr_x, fl_ptr_hi, fl_ptr_lo, fl_ptr_in]; assumption)) only [fw_b_29_0, fw_b_29_4, fw_b_29_12, fw_b_29_28, fw_b_29_48, fw_b_29_69, fw_b_29_102, fw_b_29_111, fw_b_29_120, fw_b_29_125, hnum, hg, ↓if_pos, ↓if_neg, if_neg, if_pos, fw_bs, fw_cn_0, fw_cn_1, fw_cn_2, fw_cn_3, fw_cn_4, fw_cn_5, Nat.reduceAdd, fw_w_id, fw_wl_id, fw_r_k, fw_r_j, fw_r_s, fw_r_x, if_true, if_false]
  · rw [hi] at hnum ⊢
    have e24 : fw_r (fw_u c 21 t (fw_r c 21 t + 1)) 24 i = fw_r c 24 i := fw_r_k _ (by decide)
    rcases fg_tk_01 m i (fw_r c 22 t) (fw_r c 24 i) with ht | ht
    · have hg := fs_gets_0 hcf1 i0 i1 (p := fw_r c 22 t) hp22 (by rw [fr 2 6 (by decide), fr 2 5 (by decide)]; exact hF) (by rw [e24]; exact i2) (by rw [e24]; exact ht)
      rw [ht] at hv
      subst hv
      simp (disch := first | omega | assumption | (simp (disch := omega) only [fw_w_id, fw_wl_id, fw_r_k, fw_r_j, fw_r_s]; omega) | (simp only [fw_ptr_32_0, fl_ptr_32_0, fw_ptr_32_1, fl_ptr_32_1, fw_ptr_32_2, fw_ptr_32_3, fw_ptr_32_4, fw_ptr_32_5, fl_ptr_32_5, fw_ptr_32_6, fw_ptr_32_7, fw_ptr_32_8, fw_ptr_32_9, fw_ptr_32_10, fl_ptr_32_10, fw_ptr_32_11, fl_ptr_32_11, fw_ptr_32_12, fw_ptr_32_13, fw_ptr_32_14, fw_ptr_32_15, fw_ptr_32_16, fw_ptr_32_17, fl_ptr_32_17, fw_ptr_32_18, fl_ptr_32_18, fw_ptr_32_19, fl_ptr_32_19, fw_ptr_32_20, fl_ptr_32_20, fw_ptr_32_21, fl_ptr_32_21, fw_ptr_32_22, fl_ptr_32_22, fw_ptr_32_23, fw_ptr_32_24, fw_ptr_32_25, fw_ptr_32_26, fw_ptr_32_27, fw_ptr_32_28, fw_ptr_32_29, fw_ptr_32_30, fw_ptr_32_31, fw_ptr_32_32, fw_ptr_32_33, fw_ptr_32_34, fw_ptr_32_35, fw_ptr_1_8, fw_ptr_2_5, fw_ptr_2_6, fw_ptr_2_7, fw_ptr_2_8, fw_ptr_2_9, fw_ptr_8_2, fw_ptr_8_3, fw_ptr_11_2, fw_ptr_11_3, fw_ptr_11_4, fw_ptr_11_5, fw_ptr_11_6, fw_ptr_17_8, fw_ptr_18_2, fw_ptr_18_3, fw_ptr_25_1, fw_ptr_27_2, fw_ptr_28_1, fl_ptr_33, fl_ptr_34, fl_ptr_35, fl_ptr_36, fl_ptr_38, fl_ptr_39, fl_ptr_40, fl_ptr_41, fl_ptr_42, fl_ptr_43, fl_ptr_44, fl_ptr_45, fl_ptr_46, fl_ptr_47, fl_ptr_48, fl_ptr_49, fl_ptr_50, fw_ptr_3, fw_ptr_4, fw_ptr_5, fw_ptr_6, fw_ptr_7, fw_ptr_9, fw_ptr_10, fw_ptr_13, fw_ptr_15, fw_ptr_16, fw_ptr_19, fw_ptr_20, fw_ptr_21, fw_ptr_22, fw_ptr_23, fw_ptr_24, fw_ptr_26, fw_ptr_29, fw_ptr_30, fw_ptr_31, fw_ptr_33, fw_ptr_34, fw_ptr_35, fw_ptr_36, fw_ptr_37, fw_ptr_38, fw_ptr_39, fw_ptr_40, fw_ptr_41, fw_ptr_42, fw_ptr_43, fw_ptr_44, fw_ptr_45, fw_ptr_46, fw_ptr_47, fw_ptr_48, fw_ptr_49, fw_ptr_50, fw_ptr_51, fw_ptr_52, fw_ptr_53, fw_ptr_54, fw_ptr_55, fw_ptr_12, fw_ptr_x, fw_ptr_hi, fw_ptr_b3, fw_ptr_b1, fw_ptr_b2, fw_ptr_b2_, fl_ptr_x, fl_ptr_hi, fl_ptr_lo, fl_ptr_in]; assumption)) only [fw_b_29_0, fw_b_29_4, fw_b_29_12, fw_b_29_28, fw_b_29_48, fw_b_29_69, fw_b_29_102, fw_b_29_111, fw_b_29_120, fw_b_29_125, hnum, hg, ↓if_pos, ↓if_neg, if_neg, if_pos, fw_bs, fw_cn_0, fw_cn_1, fw_cn_2, fw_cn_3, fw_cn_4, fw_cn_5, Nat.reduceAdd, fw_w_id, fw_wl_id, fw_r_k, fw_r_j, fw_r_s, fw_r_x, if_true, if_false]
    · have hg := fs_gets_1 hcf1 i0 i1 (p := fw_r c 22 t) hp22 (by rw [fr 2 6 (by decide), fr 2 5 (by decide)]; exact hF) (by rw [e24]; exact i2) (by rw [e24]; exact ht)
      rw [e24] at hg
      rw [ht] at hv
      subst hv
      have hp2 : fw_ptr (fw_u (fw_u c 21 t (fw_r c 21 t + 1)) 24 i (fw_r c 24 i + 1)) := by rw [fw_ptr_24]; exact hp1
      simp (disch := first | omega | assumption | (simp (disch := omega) only [fw_w_id, fw_wl_id, fw_r_k, fw_r_j, fw_r_s]; omega) | (simp only [fw_ptr_32_0, fl_ptr_32_0, fw_ptr_32_1, fl_ptr_32_1, fw_ptr_32_2, fw_ptr_32_3, fw_ptr_32_4, fw_ptr_32_5, fl_ptr_32_5, fw_ptr_32_6, fw_ptr_32_7, fw_ptr_32_8, fw_ptr_32_9, fw_ptr_32_10, fl_ptr_32_10, fw_ptr_32_11, fl_ptr_32_11, fw_ptr_32_12, fw_ptr_32_13, fw_ptr_32_14, fw_ptr_32_15, fw_ptr_32_16, fw_ptr_32_17, fl_ptr_32_17, fw_ptr_32_18, fl_ptr_32_18, fw_ptr_32_19, fl_ptr_32_19, fw_ptr_32_20, fl_ptr_32_20, fw_ptr_32_21, fl_ptr_32_21, fw_ptr_32_22, fl_ptr_32_22, fw_ptr_32_23, fw_ptr_32_24, fw_ptr_32_25, fw_ptr_32_26, fw_ptr_32_27, fw_ptr_32_28, fw_ptr_32_29, fw_ptr_32_30, fw_ptr_32_31, fw_ptr_32_32, fw_ptr_32_33, fw_ptr_32_34, fw_ptr_32_35, fw_ptr_1_8, fw_ptr_2_5, fw_ptr_2_6, fw_ptr_2_7, fw_ptr_2_8, fw_ptr_2_9, fw_ptr_8_2, fw_ptr_8_3, fw_ptr_11_2, fw_ptr_11_3, fw_ptr_11_4, fw_ptr_11_5, fw_ptr_11_6, fw_ptr_17_8, fw_ptr_18_2, fw_ptr_18_3, fw_ptr_25_1, fw_ptr_27_2, fw_ptr_28_1, fl_ptr_33, fl_ptr_34, fl_ptr_35, fl_ptr_36, fl_ptr_38, fl_ptr_39, fl_ptr_40, fl_ptr_41, fl_ptr_42, fl_ptr_43, fl_ptr_44, fl_ptr_45, fl_ptr_46, fl_ptr_47, fl_ptr_48, fl_ptr_49, fl_ptr_50, fw_ptr_3, fw_ptr_4, fw_ptr_5, fw_ptr_6, fw_ptr_7, fw_ptr_9, fw_ptr_10, fw_ptr_13, fw_ptr_15, fw_ptr_16, fw_ptr_19, fw_ptr_20, fw_ptr_21, fw_ptr_22, fw_ptr_23, fw_ptr_24, fw_ptr_26, fw_ptr_29, fw_ptr_30, fw_ptr_31, fw_ptr_33, fw_ptr_34, fw_ptr_35, fw_ptr_36, fw_ptr_37, fw_ptr_38, fw_ptr_39, fw_ptr_40, fw_ptr_41, fw_ptr_42, fw_ptr_43, fw_ptr_44, fw_ptr_45, fw_ptr_46, fw_ptr_47, fw_ptr_48, fw_ptr_49, fw_ptr_50, fw_ptr_51, fw_ptr_52, fw_ptr_53, fw_ptr_54, fw_ptr_55, fw_ptr_12, fw_ptr_x, fw_ptr_hi, fw_ptr_b3, fw_ptr_b1, fw_ptr_b2, fw_ptr_b2_, fl_ptr_x, fl_ptr_hi, fl_ptr_lo, fl_ptr_in]; assumption)) only [fw_b_29_0, fw_b_29_4, fw_b_29_12, fw_b_29_28, fw_b_29_48, fw_b_29_69, fw_b_29_102, fw_b_29_111, fw_b_29_120, fw_b_29_127, fw_b_29_134, hnum, hg, ↓if_pos, ↓if_neg, if_neg, if_pos, fw_bs, fw_cn_0, fw_cn_1, fw_cn_2, fw_cn_3, fw_cn_4, fw_cn_5, Nat.reduceAdd, fw_w_id, fw_wl_id, fw_r_k, fw_r_j, fw_r_s, fw_r_x, if_true, if_false]
/-- trays before t have been moved, the others not yet -/
def fg_BI (r M t : Int) (c m : fw_M) : Prop := fg_CF c m ∧ (0 ≤ fw_r c 2 6 ∧ fw_r c 2 6 ≤ fw_r c 2 5) ∧
  (∀ s, 0 ≤ s → s < t → s < fw_r m 32 1 → fw_r c 21 s = fg_nq (fw_r m 32 1) (fg_q (fw_r m 32 1) r s) ∧ fw_r c 22 s = fw_r (fg_T2 m) 33 (fw_r c 21 s) ∧ (fw_r c 22 s ≠ -1 → fw_r c 23 s = fw_r (fg_T2 m) 40 (fw_r c 22 s)) ∧ 0 ≤ fw_r c 23 s ∧ fw_r c 23 s ≤ M + 1) ∧
  (∀ s, t ≤ s → s < fw_r m 32 1 → fw_r c 21 s = fg_q (fw_r m 32 1) r s ∧ fw_r c 22 s = fw_r m 33 (fw_r c 21 s) ∧ (fw_r c 22 s ≠ -1 → fw_r c 23 s = fw_r m 40 (fw_r c 22 s)) ∧ 0 ≤ fw_r c 23 s ∧ fw_r c 23 s ≤ M) ∧
  (∀ i, 0 ≤ i → i < fw_r m 32 3 → ((∀ s, 0 ≤ s → s < t → s < fw_r m 32 1 → fg_nq (fw_r m 32 1) (fg_q (fw_r m 32 1) r s) ≠ fw_r m 34 i) → fw_r c 24 i = fw_r m 42 i) ∧ ((∃ s, 0 ≤ s ∧ s < t ∧ s < fw_r m 32 1 ∧ fg_nq (fw_r m 32 1) (fg_q (fw_r m 32 1) r s) = fw_r m 34 i) → fw_r c 24 i = fw_r (fg_T2 m) 42 i)) ∧
  ((∀ s, 0 ≤ s → s < t → s < fw_r m 32 1 → fg_nq (fw_r m 32 1) (fg_q (fw_r m 32 1) r s) ≠ 0) → fw_r c 17 8 = fw_r m 32 15) ∧ ((∃ s, 0 ≤ s ∧ s < t ∧ s < fw_r m 32 1 ∧ fg_nq (fw_r m 32 1) (fg_q (fw_r m 32 1) r s) = 0) → fw_r c 17 8 = fw_r (fg_T2 m) 32 15)
theorem fg_q_in {N r s : Int} (h : 0 ≤ r ∧ r < N) (h2 : 0 ≤ s ∧ s < N) : 0 ≤ fg_q N r s ∧ fg_q N r s < N := by unfold fg_q; split <;> omega
theorem fg_nq_in {N q : Int} (h2 : 0 ≤ q ∧ q < N) : 0 ≤ fg_nq N q ∧ fg_nq N q < N := by unfold fg_nq; split <;> omega
theorem fg_nq_inj {N r s t : Int} (h : 0 ≤ r ∧ r < N) (h2 : 0 ≤ s ∧ s < N) (h3 : 0 ≤ t ∧ t < N) (e : fg_nq N (fg_q N r s) = fg_nq N (fg_q N r t)) : s = t := by
  unfold fg_nq fg_q at e
  split at e <;> split at e <;> split at e <;> split at e <;> omega
theorem fg_bk_nq {N q : Int} (h : 4 ≤ N) (h2 : 0 ≤ q ∧ q < N) : fg_bk N (fg_nq N q) = q := by
  unfold fg_bk fg_nq; split <;> split <;> omega
/-- so many leave at place p in the next tick -/
def fg_L (m : fw_M) (p : Int) : Int := if p = 0 then 0 else if p = fw_r m 32 1 - 1 then fg_ov (fg_mvs m) else if fg_fa (fun j => fw_r m 34 j) p 0 (fg_n m) = -1 then 0 else fg_dv (fg_mvs m) (fg_fa (fun j => fw_r m 34 j) p 0 (fg_n m))
theorem fg_na_m {c m : fw_M} (h : fg_CF c m) (p : Int) : fg_na c p = fg_fa (fun j => fw_r m 34 j) p 0 (fg_n m) := by
  unfold fg_na fg_n
  rw [h.1.2.2]
  have := h.1.2.1.1
  have h3 := h.1.2.2
  exact fg_fa_ext _ _ (fun j a b => (h.2.2.2.1 j a (by omega)).1.1)
theorem fg_BI_mk {r M t p : Int} {c c' m : fw_M} (h0 : 0 ≤ t) (h1 : t < fw_r m 32 1) (h : fg_BI r M t c m) (hp : fg_nq (fw_r m 32 1) (fg_q (fw_r m 32 1) r t) = p) (hcf : fg_CF c' m) (hF : 0 ≤ fw_r c' 2 6 ∧ fw_r c' 2 6 ≤ fw_r c' 2 5)
    (k21 : ∀ s, s ≠ t → fw_r c' 21 s = fw_r c 21 s) (k22 : ∀ s, s ≠ t → fw_r c' 22 s = fw_r c 22 s) (k23 : ∀ s, s ≠ t → fw_r c' 23 s = fw_r c 23 s)
    (t21 : fw_r c' 21 t = p) (t22 : fw_r c' 22 t = fw_r (fg_T2 m) 33 p) (t23 : fw_r c' 22 t ≠ -1 → fw_r c' 23 t = fw_r (fg_T2 m) 40 (fw_r c' 22 t)) (t23b : 0 ≤ fw_r c' 23 t ∧ fw_r c' 23 t ≤ M + 1)
    (u24 : ∀ i, 0 ≤ i → i < fw_r m 32 3 → fw_r m 34 i ≠ p → fw_r c' 24 i = fw_r c 24 i) (v24 : ∀ i, 0 ≤ i → i < fw_r m 32 3 → fw_r m 34 i = p → fw_r c' 24 i = fw_r (fg_T2 m) 42 i)
    (u17 : p ≠ 0 → fw_r c' 17 8 = fw_r c 17 8) (v17 : p = 0 → fw_r c' 17 8 = fw_r (fg_T2 m) 32 15) : fg_BI r M (t + 1) c' m := by
  obtain ⟨g1, g2, g3, g4, g5, g6, g7⟩ := h
  refine ⟨hcf, hF, fun s a b d => ?_, fun s a b => ?_, fun i a b => ⟨fun hx => ?_, fun hx => ?_⟩, fun hx => ?_, fun hx => ?_⟩
  · by_cases hs : s = t
    · subst hs
      rw [t21, hp]
      exact ⟨rfl, t22, t23, t23b⟩
    · rw [k21 s hs, k22 s hs, k23 s hs]
      exact g3 s a (by omega) d
  · rw [k21 s (by omega), k22 s (by omega), k23 s (by omega)]
    exact g4 s (by omega) b
  · have hne : fw_r m 34 i ≠ p := fun e => hx t h0 (by omega) h1 (hp.trans e.symm)
    rw [u24 i a b hne]
    exact (g5 i a b).1 (fun s a b d => hx s a (by omega) d)
  · by_cases he : fw_r m 34 i = p
    · exact v24 i a b he
    · rw [u24 i a b he]
      obtain ⟨s, x1, x2, x3, x4⟩ := hx
      have hs : s ≠ t := fun e => he (by rw [← x4, e, hp])
      exact (g5 i a b).2 ⟨s, x1, by omega, x3, x4⟩
  · have hne : p ≠ 0 := fun e => hx t h0 (by omega) h1 (hp.trans e)
    rw [u17 hne]
    exact g6 (fun s a b d => hx s a (by omega) d)
  · by_cases he : p = 0
    · exact v17 he
    · rw [u17 he]
      obtain ⟨s, x1, x2, x3, x4⟩ := hx
      have hs : s ≠ t := fun e => he (by rw [← x4, e, hp])
      exact g7 ⟨s, x1, by omega, x3, x4⟩
theorem fg_BI_step {r M t : Int} {c m : fw_M} {a2 a3 : fw_V} (hm : fg_ML M m) (hM : M ≤ 1000000) (hr : 0 ≤ r ∧ r < fw_r m 32 1) (h0 : 0 ≤ t) (h1 : t < fw_r m 32 1) (h : fg_BI r M t c m) : ∃ c', fw_E 29 0 [(2, 17), (0, t), a2, a3] [] c = some ((0, fg_L m (fg_nq (fw_r m 32 1) (fg_q (fw_r m 32 1) r t))), c') ∧ fg_BI r M (t + 1) c' m ∧ fg_FR c c' := by
  obtain ⟨g1, g2, g3, g4, g5, g6, g7⟩ := h
  have hp := g1.1.1
  have hN := hm.1.2.2.1
  have hL := g1.2.1.2.1
  have h5 := g1.2.1.2.2.2.1
  have h10 := g1.2.1.2.2.2.2.2
  have h8 := g1.2.1.2.2.2.2.1
  have h9 := g1.2.1.2.2.1
  have hF := hm.2.1.2.1
  obtain ⟨q1, q2, q3, q4, q5⟩ := g4 t (Int.le_refl t) h1
  have hqi := fg_q_in hr ⟨h0, h1⟩
  have hbk := fg_bk_nq hN.1 hqi
  have hni := fg_nq_in hqi
  have cf := fg_T2_cf hm
  obtain ⟨cf1, cf2, cf3, cf4, cf5, cf6, cf7⟩ := cf
  have hTR := hm.2.1
  have hun : ∀ s, 0 ≤ s → s < t → s < fw_r m 32 1 → fg_nq (fw_r m 32 1) (fg_q (fw_r m 32 1) r s) ≠ fg_nq (fw_r m 32 1) (fg_q (fw_r m 32 1) r t) := fun s a b d e => by
    have := fg_nq_inj hr ⟨a, d⟩ ⟨h0, h1⟩ e
    omega
  have hpe := rfl (a := fg_nq (fw_r m 32 1) (fg_q (fw_r m 32 1) r t))
  have hBI : fg_BI r M t c m := ⟨g1, g2, g3, g4, g5, g6, g7⟩
  have hp33 : fw_r (fg_mvs m) 33 (fg_nq (fw_r m 32 1) (fg_q (fw_r m 32 1) r t)) = fw_r c 22 t := by rw [fg_mvs_33 hni.1 hni.2, hbk, q2, q1]
  have ht22 := hTR.2.2.1 _ hqi.1 hqi.2
  rw [q1] at q2
  rw [← q2] at ht22
  have e40 : ∀ j, fw_r (fg_mvs m) 40 j = if j = fw_r m 33 (fw_r m 32 1 - 1) ∧ fw_r m 33 (fw_r m 32 1 - 1) ≠ -1 then fw_r m 40 j + 1 else fw_r m 40 j := fg_mvs_40 m
  have hq40 : fg_q (fw_r m 32 1) r t ≠ fw_r m 32 1 - 1 → fw_r c 22 t ≠ -1 → fw_r (fg_mvs m) 40 (fw_r c 22 t) = fw_r m 40 (fw_r c 22 t) := fun hx hy => by
    rw [e40, if_neg]
    intro hc
    have := hTR.2.2.2.1 _ _ hqi.1 hqi.2 (by omega) (by omega) (q2.symm.trans hc.1) (by rw [← q2]; exact hy)
    exact hx this
  have frF : ∀ {c' : fw_M}, fg_FR c c' → (0 ≤ fw_r c' 2 6 ∧ fw_r c' 2 6 ≤ fw_r c' 2 5) := fun fr => by rw [fr 2 6 (by decide), fr 2 5 (by decide)]; exact g2
  by_cases c0 : fg_nq (fw_r m 32 1) (fg_q (fw_r m 32 1) r t) = 0
  · -- the loader
    have hqN : fg_q (fw_r m 32 1) r t = fw_r m 32 1 - 1 := by unfold fg_nq at c0; split at c0 <;> omega
    have h17 := g6 (fun s a b d e => hun s a b d (e.trans c0.symm))
    rw [c0] at hp33
    have hiff : fg_lp c (fw_r c 22 t) (fw_r c 17 8) (fw_r c 2 5) ↔ (fw_r (fg_mvs m) 32 7 = 0 ∧ fw_r (fg_mvs m) 33 0 = -1 ∧ fw_r (fg_mvs m) 32 15 < fw_r (fg_mvs m) 32 10) := by
      unfold fg_lp
      rw [h5, h17, h10, hp33, fg_mvs_o _ (by decide) (by decide), fg_mvs_o _ (by decide) (by decide), fg_mvs_o _ (by decide) (by decide)]
    have hL0 : fg_L m (fg_nq (fw_r m 32 1) (fg_q (fw_r m 32 1) r t)) = 0 := by unfold fg_L; rw [if_pos c0]
    rw [hL0]
    rcases fg_lv_01 (fg_mvs m) with hl | hl
    · have hn : ¬fg_lp c (fw_r c 22 t) (fw_r c 17 8) (fw_r c 2 5) := fun hx => fg_lv_0 hl (hiff.mp hx)
      have fr : fg_FR c (fw_u (fw_u c 21 t 0) 23 t (fw_r c 23 t + 1)) := fg_FR_u (fg_FR_u (fg_FR_refl c) (by decide) (by decide)) (by decide) (by decide)
      refine ⟨_, fs_mt_0n (F := 0) hp h0 (by omega) (by omega) (by omega) hn, ?_, fr⟩
      refine fg_BI_mk h0 h1 hBI c0 (fg_CF_FR g1 (by rw [fw_ptr_23, fw_ptr_21]; exact hp) fr) (frF fr) (fun s hs => by rw [fw_r_k _ (by decide), fw_r_j _ hs]) (fun s hs => by rw [fw_r_k _ (by decide), fw_r_k _ (by decide)]) (fun s hs => by rw [fw_r_j _ hs, fw_r_k _ (by decide)]) (by rw [fw_r_k _ (by decide), fw_r_s]) ?_ ?_ ?_ (fun i a b _ => by rw [fw_r_k _ (by decide), fw_r_k _ (by decide)]) (fun i a b e => ?_) (fun hx => absurd rfl hx) (fun _ => ?_)
      · rw [fw_r_k _ (by decide), fw_r_k _ (by decide), cf4, if_neg (by omega), hp33]
      · rw [fw_r_k _ (by decide), fw_r_k _ (by decide), fw_r_s, cf6, e40]
        intro hy
        have hy2 : fw_r m 33 (fw_r m 32 1 - 1) = fw_r c 22 t := by rw [q2, hqN]
        rw [hy2, if_pos ⟨rfl, hy⟩, q3 hy]
      · rw [fw_r_s]; omega
      · have := hm.1.2.2.2.2.1 i a b; omega
      · rw [fw_r_k _ (by decide), fw_r_k _ (by decide), h17, cf5, hl]; omega
    · have hy : fg_lp c (fw_r c 22 t) (fw_r c 17 8) (fw_r c 2 5) := hiff.mpr (fg_lv_1 hl)
      have fr : fg_FR c (fw_u (fw_u (fw_u (fw_u (fw_u c 21 t 0) 23 t (fw_r c 23 t + 1)) 22 t (fw_r c 17 8)) 23 t 0) 17 8 (fw_r c 17 8 + 1)) := fg_FR_u (fg_FR_u (fg_FR_u (fg_FR_u (fg_FR_u (fg_FR_refl c) (by decide) (by decide)) (by decide) (by decide)) (by decide) (by decide)) (by decide) (by decide)) (by decide) (by decide)
      refine ⟨_, fs_mt_0y hp h0 (by omega) (by omega) (by omega) (by omega) hy, ?_, fr⟩
      have hlt := (fg_lv_1 hl).2.2
      rw [fg_mvs_o _ (by decide) (by decide), fg_mvs_o _ (by decide) (by decide)] at hlt
      refine fg_BI_mk h0 h1 hBI c0 (fg_CF_FR g1 (by rw [fw_ptr_17_8, fw_ptr_23, fw_ptr_22, fw_ptr_23, fw_ptr_21]; exact hp) fr) (frF fr) (fun s hs => ?_) (fun s hs => ?_) (fun s hs => ?_) ?_ ?_ ?_ ?_ (fun i a b _ => ?_) (fun i a b e => ?_) (fun hx => absurd rfl hx) (fun _ => ?_)
      · simp (disch := omega) only [fw_r_k, fw_r_j]
      · simp (disch := omega) only [fw_r_k, fw_r_j]
      · simp (disch := omega) only [fw_r_k, fw_r_j]
      · simp (disch := omega) only [fw_r_k, fw_r_s]
      · simp (disch := omega) only [fw_r_k, fw_r_s]
        rw [cf4, if_pos hl, h17]
      · simp (disch := omega) only [fw_r_k, fw_r_s]
        intro _
        rw [cf6, e40, h17, if_neg]
        · exact (hTR.2.2.2.2 _ (Int.le_refl _) hlt).symm
        · intro hc
          have := hTR.2.2.1 (fw_r m 32 1 - 1) (by omega) (by omega)
          omega
      · simp (disch := omega) only [fw_r_k, fw_r_s]; omega
      · simp (disch := omega) only [fw_r_k]
      · have := hm.1.2.2.2.2.1 i a b; omega
      · simp (disch := omega) only [fw_r_s]
        rw [h17, cf5, hl]
  · have hpq : fg_nq (fw_r m 32 1) (fg_q (fw_r m 32 1) r t) = fg_q (fw_r m 32 1) r t + 1 := by unfold fg_nq at c0 ⊢; split at c0 <;> first | (split <;> omega) | omega
    have hqq : fg_q (fw_r m 32 1) r t ≠ fw_r m 32 1 - 1 := by omega
    by_cases cN : fg_nq (fw_r m 32 1) (fg_q (fw_r m 32 1) r t) = fw_r m 32 1 - 1
    · -- the overflow
      have hLo : fg_L m (fg_nq (fw_r m 32 1) (fg_q (fw_r m 32 1) r t)) = fg_ov (fg_mvs m) := by unfold fg_L; rw [if_neg c0, if_pos cN]
      rw [hLo]
      have eN : fw_r (fg_mvs m) 32 1 = fw_r m 32 1 := fg_mvs_o m (by decide) (by decide)
      rw [cN] at hp33
      have hiff : fg_ot c (fw_r c 22 t) (fw_r c 23 t) ↔ (fw_r (fg_mvs m) 33 (fw_r (fg_mvs m) 32 1 - 1) ≠ -1 ∧ fw_r (fg_mvs m) 32 8 = 0 ∧ fw_r (fg_mvs m) 32 9 ≤ fw_r (fg_mvs m) 40 (fw_r (fg_mvs m) 33 (fw_r (fg_mvs m) 32 1 - 1))) := by
        unfold fg_ot
        rw [h8, h9, eN, hp33, fg_mvs_o _ (by decide) (by decide), fg_mvs_o _ (by decide) (by decide)]
        constructor
        · rintro ⟨x, y, z⟩; refine ⟨y, x, ?_⟩; rw [hq40 hqq y, ← q3 y]; exact z
        · rintro ⟨x, y, z⟩; refine ⟨y, x, ?_⟩; rw [hq40 hqq x, ← q3 x] at z; exact z
      have hv : (fg_ov (fg_mvs m) = 1 ∧ fg_ot c (fw_r c 22 t) (fw_r c 23 t)) ∨ (fg_ov (fg_mvs m) = 0 ∧ ¬fg_ot c (fw_r c 22 t) (fw_r c 23 t)) := by
        rcases fg_ov_01 (fg_mvs m) with ho | ho
        · right; exact ⟨ho, fun hx => fg_ov_0 ho (hiff.mp hx)⟩
        · left; exact ⟨ho, hiff.mpr (fg_ov_1 ho)⟩
      refine ⟨_, fs_mt_o hp h0 (by omega) (by omega) (by omega) hv, ?_⟩
      rcases fg_ov_01 (fg_mvs m) with ho | ho
      · rw [if_neg (by omega)]
        have fr : fg_FR c (fw_u c 21 t (fw_r c 11 3)) := fg_FR_u (fg_FR_refl c) (by decide) (by decide)
        refine ⟨?_, fr⟩
        refine fg_BI_mk h0 h1 hBI cN (fg_CF_FR g1 (by rw [fw_ptr_21]; exact hp) fr) (frF fr) (fun s hs => by rw [fw_r_j _ hs]) (fun s hs => by rw [fw_r_k _ (by decide)]) (fun s hs => by rw [fw_r_k _ (by decide)]) (by rw [fw_r_s, hL]) ?_ ?_ ?_ (fun i a b _ => by rw [fw_r_k _ (by decide)]) (fun i a b e => ?_) (fun _ => by rw [fw_r_k _ (by decide)]) (fun hx => by omega)
        · rw [fw_r_k _ (by decide), cf3, if_neg (by omega), hp33]
        · rw [fw_r_k _ (by decide), fw_r_k _ (by decide), cf6]
          intro hy; rw [hq40 hqq hy]; exact q3 hy
        · rw [fw_r_k _ (by decide)]; omega
        · have := hm.1.2.2.2.2.1 i a b; omega
      · rw [if_pos ho]
        have fr : fg_FR c (fw_u (fw_u c 21 t (fw_r c 11 3)) 22 t (-1)) := fg_FR_u (fg_FR_u (fg_FR_refl c) (by decide) (by decide)) (by decide) (by decide)
        refine ⟨?_, fr⟩
        refine fg_BI_mk h0 h1 hBI cN (fg_CF_FR g1 (by rw [fw_ptr_22, fw_ptr_21]; exact hp) fr) (frF fr) (fun s hs => by rw [fw_r_k _ (by decide), fw_r_j _ hs]) (fun s hs => by rw [fw_r_j _ hs, fw_r_k _ (by decide)]) (fun s hs => by rw [fw_r_k _ (by decide), fw_r_k _ (by decide)]) (by rw [fw_r_k _ (by decide), fw_r_s, hL]) ?_ ?_ ?_ (fun i a b _ => by rw [fw_r_k _ (by decide), fw_r_k _ (by decide)]) (fun i a b e => ?_) (fun _ => by rw [fw_r_k _ (by decide), fw_r_k _ (by decide)]) (fun hx => by omega)
        · rw [fw_r_s, cf3, if_pos ho]
        · rw [fw_r_s]; intro hy; exact absurd rfl hy
        · rw [fw_r_k _ (by decide), fw_r_k _ (by decide)]; omega
        · have := hm.1.2.2.2.2.1 i a b; omega
    · -- a chute, or none
      have hnm := fg_na_m g1 (fg_nq (fw_r m 32 1) (fg_q (fw_r m 32 1) r t))
      have hLc : fg_L m (fg_nq (fw_r m 32 1) (fg_q (fw_r m 32 1) r t)) = if fg_na c (fg_nq (fw_r m 32 1) (fg_q (fw_r m 32 1) r t)) = -1 then 0 else fg_dv (fg_mvs m) (fg_na c (fg_nq (fw_r m 32 1) (fg_q (fw_r m 32 1) r t))) := by
        unfold fg_L; rw [if_neg c0, if_neg cN, hnm]
      rw [hLc]
      have h21 : fw_r c 21 t + 1 = fg_nq (fw_r m 32 1) (fg_q (fw_r m 32 1) r t) := by omega
      have hnn : (fg_na c (fg_nq (fw_r m 32 1) (fg_q (fw_r m 32 1) r t)) = -1 ∧ ∀ j, 0 ≤ j → j < fw_r m 32 3 → fw_r m 34 j ≠ fg_nq (fw_r m 32 1) (fg_q (fw_r m 32 1) r t)) ∨ (0 ≤ fg_na c (fg_nq (fw_r m 32 1) (fg_q (fw_r m 32 1) r t)) ∧ fg_na c (fg_nq (fw_r m 32 1) (fg_q (fw_r m 32 1) r t)) < fw_r m 32 3 ∧ fw_r m 34 (fg_na c (fg_nq (fw_r m 32 1) (fg_q (fw_r m 32 1) r t))) = fg_nq (fw_r m 32 1) (fg_q (fw_r m 32 1) r t)) := by
        rcases fg_na_in (p := fg_nq (fw_r m 32 1) (fg_q (fw_r m 32 1) r t)) g1.1.2.1 with hk | hk
        · left
          refine ⟨hk.1, fun j a b => ?_⟩
          rw [← (g1.2.2.2.1 j a b).1.1]
          exact hk.2 j a (by rw [g1.1.2.2]; exact b)
        · right
          have hk2 : fg_na c (fg_nq (fw_r m 32 1) (fg_q (fw_r m 32 1) r t)) < fw_r m 32 3 := by rw [← g1.1.2.2]; exact hk.2.1
          exact ⟨hk.1, hk2, by rw [← (g1.2.2.2.1 _ hk.1 hk2).1.1]; exact hk.2.2⟩
      rcases hnn with ⟨n1, n2⟩ | ⟨n1, n2, n3⟩
      · rw [if_pos n1]
        refine ⟨_, fs_mt_c (v := 0) g1 g2 h0 (by omega) (by omega) (by omega) (Or.inl ⟨rfl, by rw [h21]; exact n1⟩), ?_⟩
        rw [if_neg (by decide), h21]
        have fr : fg_FR c (fw_u c 21 t (fg_nq (fw_r m 32 1) (fg_q (fw_r m 32 1) r t))) := fg_FR_u (fg_FR_refl c) (by decide) (by decide)
        refine ⟨?_, fr⟩
        refine fg_BI_mk h0 h1 hBI rfl (fg_CF_FR g1 (by rw [fw_ptr_21]; exact hp) fr) (frF fr) (fun s hs => by rw [fw_r_j _ hs]) (fun s hs => by rw [fw_r_k _ (by decide)]) (fun s hs => by rw [fw_r_k _ (by decide)]) (by rw [fw_r_s]) ?_ ?_ ?_ (fun i a b _ => by rw [fw_r_k _ (by decide)]) (fun i a b e => absurd e (n2 i a b)) (fun _ => by rw [fw_r_k _ (by decide)]) (fun hx => absurd hx c0)
        · rw [fw_r_k _ (by decide), cf1 _ (by omega) (by omega) n2, hp33]
        · rw [fw_r_k _ (by decide), fw_r_k _ (by decide), cf6]
          intro hy; rw [hq40 hqq hy]; exact q3 hy
        · rw [fw_r_k _ (by decide)]; omega
      · have h24 := (g5 _ n1 n2).1 (fun s a b d e => hun s a b d (e.trans n3))
        have hmi := hm.2.2.1 _ n1 n2
        have hdv : fg_dv (fg_mvs m) (fg_na c (fg_nq (fw_r m 32 1) (fg_q (fw_r m 32 1) r t))) = fg_tk m (fg_na c (fg_nq (fw_r m 32 1) (fg_q (fw_r m 32 1) r t))) (fw_r c 22 t) (fw_r c 24 (fg_na c (fg_nq (fw_r m 32 1) (fg_q (fw_r m 32 1) r t)))) := by
          rw [fg_dv_tk]
          have o34 : ∀ j, fw_r (fg_mvs m) 34 j = fw_r m 34 j := fun j => fg_mvs_o m (by decide) (by decide)
          have o42 : ∀ j, fw_r (fg_mvs m) 42 j = fw_r m 42 j := fun j => fg_mvs_o m (by decide) (by decide)
          rw [o34, o42, n3, hp33, h24]
          unfold fg_tk
          have o36 : ∀ j, fw_r (fg_mvs m) 36 j = fw_r m 36 j := fun j => fg_mvs_o m (by decide) (by decide)
          have o41 : ∀ j, fw_r (fg_mvs m) 41 j = fw_r m 41 j := fun j => fg_mvs_o m (by decide) (by decide)
          have o37 : ∀ j, fw_r (fg_mvs m) 37 j = fw_r m 37 j := fun j => fg_mvs_o m (by decide) (by decide)
          have o35 : ∀ j, fw_r (fg_mvs m) 35 j = fw_r m 35 j := fun j => fg_mvs_o m (by decide) (by decide)
          rw [o36, o41, o37, o35]
        have c2i := cf2 _ n1 n2
        rw [n3] at c2i
        rw [if_neg (by omega), hdv]
        refine ⟨_, fs_mt_c (v := fg_tk m (fg_na c (fg_nq (fw_r m 32 1) (fg_q (fw_r m 32 1) r t))) (fw_r c 22 t) (fw_r c 24 (fg_na c (fg_nq (fw_r m 32 1) (fg_q (fw_r m 32 1) r t))))) g1 g2 h0 (by omega) (by omega) (by omega) (Or.inr ⟨_, by rw [h21], n1, n2, by rw [h24]; exact hmi, rfl⟩), ?_⟩
        rw [h21, ← hdv]
        generalize fg_na c (fg_nq (fw_r m 32 1) (fg_q (fw_r m 32 1) r t)) = i at *
        have hone : ∀ j, 0 ≤ j → j < fw_r m 32 3 → fw_r m 34 j = fg_nq (fw_r m 32 1) (fg_q (fw_r m 32 1) r t) → j = i := fun j a b e => hm.1.2.2.2.2.2.1 j i a b n1 n2 (e.trans n3.symm)
        rcases fg_dv_01 (fg_mvs m) i with hd | hd
        · rw [if_neg (by omega)]
          have fr : fg_FR c (fw_u c 21 t (fg_nq (fw_r m 32 1) (fg_q (fw_r m 32 1) r t))) := fg_FR_u (fg_FR_refl c) (by decide) (by decide)
          refine ⟨?_, fr⟩
          refine fg_BI_mk h0 h1 hBI rfl (fg_CF_FR g1 (by rw [fw_ptr_21]; exact hp) fr) (frF fr) (fun s hs => by rw [fw_r_j _ hs]) (fun s hs => by rw [fw_r_k _ (by decide)]) (fun s hs => by rw [fw_r_k _ (by decide)]) (by rw [fw_r_s]) ?_ ?_ ?_ (fun i a b _ => by rw [fw_r_k _ (by decide)]) (fun j a b e => ?_) (fun _ => by rw [fw_r_k _ (by decide)]) (fun hx => absurd hx c0)
          · rw [fw_r_k _ (by decide), c2i.1, if_neg (by omega), hp33]
          · rw [fw_r_k _ (by decide), fw_r_k _ (by decide), cf6]
            intro hy; rw [hq40 hqq hy]; exact q3 hy
          · rw [fw_r_k _ (by decide)]; omega
          · have hj := hone j a b e
            subst hj
            rw [fw_r_k _ (by decide), h24, c2i.2, hd]; omega
        · rw [if_pos hd]
          have fr : fg_FR c (fw_u (fw_u (fw_u c 21 t (fg_nq (fw_r m 32 1) (fg_q (fw_r m 32 1) r t))) 24 i (fw_r c 24 i + 1)) 22 t (-1)) := fg_FR_u (fg_FR_u (fg_FR_u (fg_FR_refl c) (by decide) (by decide)) (by decide) (by decide)) (by decide) (by decide)
          refine ⟨?_, fr⟩
          refine fg_BI_mk h0 h1 hBI rfl (fg_CF_FR g1 (by rw [fw_ptr_22, fw_ptr_24, fw_ptr_21]; exact hp) fr) (frF fr) (fun s hs => ?_) (fun s hs => ?_) (fun s hs => ?_) ?_ ?_ ?_ ?_ (fun j a b e => ?_) (fun j a b e => ?_) (fun _ => ?_) (fun hx => absurd hx c0)
          · simp (disch := omega) only [fw_r_k, fw_r_j]
          · simp (disch := omega) only [fw_r_k, fw_r_j]
          · simp (disch := omega) only [fw_r_k, fw_r_j]
          · simp (disch := omega) only [fw_r_k, fw_r_s]
          · rw [fw_r_s, c2i.1, if_pos hd]
          · rw [fw_r_s]; intro hy; exact absurd rfl hy
          · simp (disch := omega) only [fw_r_k]; omega
          · have hji : j ≠ i := fun hx => e (by rw [hx]; exact n3)
            rw [fw_r_k _ (by decide), fw_r_j _ hji, fw_r_k _ (by decide)]
          · have hj := hone j a b e
            subst hj
            rw [fw_r_k _ (by decide), fw_r_s, h24, c2i.2, hd]
          · simp (disch := omega) only [fw_r_k]
