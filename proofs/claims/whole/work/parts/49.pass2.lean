/-! pass -/
theorem fg_pcn_o : ∀ (k : Nat) (i : Int) (m : fw_M) (a j : Int), (a < 32 ∨ 48 < a ∨ (a = 32 ∧ j < 15)) → fw_r (fg_pcn m i k) a j = fw_r m a j := by
  intro k
  induction k with
  | zero => intro i m a j h; rfl
  | succ k ih =>
    intro i m a j h
    rw [fg_pcn, ih _ _ _ _ h, fg_pco m i (by omega) (by omega) (by omega) (by omega) (by omega) (by omega) (by omega)]
theorem fg_P2_o (m : fw_M) {a j : Int} (h : a < 32 ∨ 48 < a ∨ (a = 32 ∧ j < 15)) : fw_r (fg_P2 m) a j = fw_r m a j := by
  unfold fg_P2
  rw [fg_plo _ (by omega) (by omega) (by omega), fg_poo _ (by omega) (by omega) (by omega), fg_pcn_o _ _ _ _ _ h, fg_mvs_o _ (by omega) (by omega)]
  unfold fg_tk0
  rw [fw_r_u, if_neg (by omega)]
theorem fg_Pn_o : ∀ (k : Nat) (m : fw_M) {a j : Int}, (a < 32 ∨ 48 < a ∨ (a = 32 ∧ j < 15)) → fw_r (fg_Pn k m) a j = fw_r m a j := by
  intro k
  induction k with
  | zero => intro m a j h; rfl
  | succ k ih =>
    intro m a j h
    rw [fg_Pn, ih _ h, fg_P2_o m h]
theorem op_pass {t x : Int} {σ : fw_M} (ht : t ≤ 1600) (h : fg_INV t σ) : fg_OK t (fun σ => fw_E 191 0 [(2, 1), (0, x), (2, 54), (8, 0)] [] σ) (fun σ => fw_E 145 0 [(2, 32), (0, x), (8, 0), (8, 0)] [] σ) σ := by
  obtain ⟨⟨hp, hk, hpk⟩, ⟨h3, h30, h36⟩, hN, h82, h113, h25, hP⟩ := fg_facts h
  have t0 := h.2.1
  by_cases c1 : 1 ≤ x ∧ x ≤ 200
  · have r1 := fs_rTicks_t (σ := σ) c1
    have hx : ((x.toNat : Nat) : Int) = x := by omega
    obtain ⟨c', q1, q2, q3⟩ := fs_pass_lp (x := x) x.toNat 0 0 (200 * t) σ σ (by omega) h.1 (by omega) (by omega) (by omega) (by omega) (by omega)
    have hpc := q2.1.1.1.1
    generalize hd : 0 + (fw_r (fg_Pn x.toNat σ) 32 17 - fw_r σ 32 17) = d at q1
    have hps : fw_ptr (fw_u (fw_u c' 54 0 d) 32 0 0) := by rw [fw_ptr_32_0, fw_ptr_54]; exact hpc
    have hI : fg_IN (200 * t) σ (fw_u (fw_u c' 54 0 d) 32 0 0) := fg_IN_eq h.1 (fg_AC_refl σ) (fun a j u v w => by (try simp (disch := omega) only [fw_r_n, fw_r_s]); exact q3 _ _ (by omega)) hp hps
    obtain ⟨c2, w1, w2, -⟩ := fs_pass_lp (x := x) x.toNat 0 0 (200 * t) σ _ (by omega) hI (by omega) (by omega) (by omega) (by omega) (by omega)
    have r2 := fs_mpass_lp (x := x) x.toNat 0 0 (200 * t) σ _ (by omega) hI (by omega) (by omega) (by omega) (by omega) (by omega)
    rw [q1] at w1
    injection w1 with w1
    have w3 := congrArg Prod.snd w1
    have w4 := congrArg (fun o => o.1.2) w1
    dsimp only at w3 w4
    subst w3
    rw [← w4] at r2
    have fr := fun a j hh => fg_Pn_o x.toNat (fw_u (fw_u c' 54 0 d) 32 0 0) (a := a) (j := j) hh
    refine fg_OK_fin (v := d) (σ1 := fw_u c' 54 0 d) (σ2 := fg_Pn x.toNat (fw_u (fw_u c' 54 0 d) 32 0 0)) h ?_ ?_ ?_ ?_ (fg_IN_M w2 (by omega)) (fun a j ha => ?_) (fg_AG_refl _) w2.1.2 ?_ ?_ ?_ ?_ (fun a j ha => ?_) (fun a j ha => by rw [fw_r_k _ (by omega)]; exact q3 a j (by omega))
    · simp (disch := first | assumption | first | omega | assumption | (simp (disch := omega) only [fw_w_id, fw_wl_id, fw_r_k, fw_r_j, fw_r_s]; omega) | (simp only [fw_ptr_1_8, fw_ptr_2_5, fw_ptr_2_6, fw_ptr_2_7, fw_ptr_2_8, fw_ptr_2_9, fw_ptr_8_2, fw_ptr_8_3, fw_ptr_11_2, fw_ptr_11_3, fw_ptr_11_4, fw_ptr_11_5, fw_ptr_11_6, fw_ptr_17_8, fw_ptr_18_2, fw_ptr_18_3, fw_ptr_25_1, fw_ptr_27_2, fw_ptr_28_1, fw_ptr_32_0, fw_ptr_32_1, fw_ptr_32_3, fw_ptr_32_7, fw_ptr_32_8, fw_ptr_32_9, fw_ptr_32_10, fw_ptr_32_15, fw_ptr_32_16, fw_ptr_32_17, fw_ptr_32_18, fw_ptr_32_19, fw_ptr_32_25, fw_ptr_32_29, fw_ptr_3, fw_ptr_4, fw_ptr_5, fw_ptr_6, fw_ptr_7, fw_ptr_9, fw_ptr_10, fw_ptr_13, fw_ptr_15, fw_ptr_16, fw_ptr_19, fw_ptr_20, fw_ptr_21, fw_ptr_22, fw_ptr_23, fw_ptr_24, fw_ptr_26, fw_ptr_29, fw_ptr_30, fw_ptr_31, fw_ptr_33, fw_ptr_34, fw_ptr_35, fw_ptr_36, fw_ptr_37, fw_ptr_38, fw_ptr_39, fw_ptr_40, fw_ptr_41, fw_ptr_42, fw_ptr_43, fw_ptr_44, fw_ptr_45, fw_ptr_46, fw_ptr_47, fw_ptr_48, fw_ptr_49, fw_ptr_50, fw_ptr_51, fw_ptr_52, fw_ptr_53, fw_ptr_54, fw_ptr_55, fw_ptr_12, fw_ptr_x, fw_ptr_hi, fw_ptr_b3, fw_ptr_b1, fw_ptr_b2, fw_ptr_b2_]; assumption)) only [fw_b_191_0, fw_b_191_12, fw_b_191_7, fw_b_191_9, fw_h191_0, fw_b_77_0, fw_b_77_4, r1, q1, ↓if_pos, ↓if_neg, if_neg, if_pos, fw_bs, fw_cn_0, fw_cn_1, fw_cn_2, fw_cn_3, fw_cn_4, fw_cn_5, Nat.reduceAdd, fw_w_id, fw_wl_id, fw_r_k, fw_r_j, fw_r_s, fw_r_x, if_true, if_false]
    · have e1 := fs_isIn_t (m := fw_u c' 54 0 d) c1
      have e4 := fs_goesOn_0 (m := fw_u c' 54 0 d)
      simp (disch := first | assumption | omega) only [fw_b_145_0, fw_b_145_9, fw_b_145_12, fw_b_145_20, fw_b_145_25, e1, e4, r2, ↓if_pos, ↓if_neg, fw_bs, fw_cn_0, Nat.reduceAdd]
    · rw [fr _ _ (by omega), fw_r_s]
    · rw [fr _ _ (by omega)]; (try simp (disch := omega) only [fw_r_n, fw_r_s])
    · rw [fr _ _ (by omega)]; (try simp (disch := omega) only [fw_r_n, fw_r_s])
    · rw [fr _ _ (by omega)]; (try simp (disch := omega) only [fw_r_n, fw_r_s]); exact q3 _ _ (by omega)
    · rw [fr _ _ (by omega)]; (try simp (disch := omega) only [fw_r_n, fw_r_s]); exact q3 _ _ (by omega)
    · rw [fr _ _ (by omega)]; (try simp (disch := omega) only [fw_r_n, fw_r_s]); exact q3 _ _ (by omega)
    · rw [fr _ _ (by omega)]; (try simp (disch := omega) only [fw_r_n, fw_r_s]); exact q3 _ _ (by omega)
    · rw [fr _ _ (by omega)]; (try simp (disch := omega) only [fw_r_n, fw_r_s]); exact q3 _ _ (by omega)
  · have r1 := fs_rTicks_f (σ := σ) c1
    have e1 := fs_isIn_f (m := fw_ex σ) c1
    have g1 := fs_goesOn_n (m := fw_ex σ) (v := 1) (by decide)
    refine fg_OK_err (k := 1) (b := 0) h (by decide) ?_ ?_
    · simp (disch := first | assumption | first | omega | assumption | (simp (disch := omega) only [fw_w_id, fw_wl_id, fw_r_k, fw_r_j, fw_r_s]; omega) | (simp only [fw_ptr_1_8, fw_ptr_2_5, fw_ptr_2_6, fw_ptr_2_7, fw_ptr_2_8, fw_ptr_2_9, fw_ptr_8_2, fw_ptr_8_3, fw_ptr_11_2, fw_ptr_11_3, fw_ptr_11_4, fw_ptr_11_5, fw_ptr_11_6, fw_ptr_17_8, fw_ptr_18_2, fw_ptr_18_3, fw_ptr_25_1, fw_ptr_27_2, fw_ptr_28_1, fw_ptr_32_0, fw_ptr_32_1, fw_ptr_32_3, fw_ptr_32_7, fw_ptr_32_8, fw_ptr_32_9, fw_ptr_32_10, fw_ptr_32_15, fw_ptr_32_16, fw_ptr_32_17, fw_ptr_32_18, fw_ptr_32_19, fw_ptr_32_25, fw_ptr_32_29, fw_ptr_3, fw_ptr_4, fw_ptr_5, fw_ptr_6, fw_ptr_7, fw_ptr_9, fw_ptr_10, fw_ptr_13, fw_ptr_15, fw_ptr_16, fw_ptr_19, fw_ptr_20, fw_ptr_21, fw_ptr_22, fw_ptr_23, fw_ptr_24, fw_ptr_26, fw_ptr_29, fw_ptr_30, fw_ptr_31, fw_ptr_33, fw_ptr_34, fw_ptr_35, fw_ptr_36, fw_ptr_37, fw_ptr_38, fw_ptr_39, fw_ptr_40, fw_ptr_41, fw_ptr_42, fw_ptr_43, fw_ptr_44, fw_ptr_45, fw_ptr_46, fw_ptr_47, fw_ptr_48, fw_ptr_49, fw_ptr_50, fw_ptr_51, fw_ptr_52, fw_ptr_53, fw_ptr_54, fw_ptr_55, fw_ptr_12, fw_ptr_x, fw_ptr_hi, fw_ptr_b3, fw_ptr_b1, fw_ptr_b2, fw_ptr_b2_]; assumption)) only [fw_b_191_0, fw_b_191_12, fw_b_191_7, fw_b_191_9, fw_h191_0, fw_b_77_0, fw_b_77_4, fw_b_77_8, fw_b_77_26, fw_b_77_13, fw_b_77_18, fw_c9_77, r1, ↓if_pos, ↓if_neg, if_neg, if_pos, fw_bs, fw_cn_0, fw_cn_1, fw_cn_2, fw_cn_3, fw_cn_4, fw_cn_5, Nat.reduceAdd, fw_w_id, fw_wl_id, fw_r_k, fw_r_j, fw_r_s, fw_r_x, if_true, if_false]
    · simp (disch := first | assumption | first | omega | assumption | (simp (disch := omega) only [fw_w_id, fw_wl_id, fw_r_k, fw_r_j, fw_r_s]; omega) | (simp only [fw_ptr_1_8, fw_ptr_2_5, fw_ptr_2_6, fw_ptr_2_7, fw_ptr_2_8, fw_ptr_2_9, fw_ptr_8_2, fw_ptr_8_3, fw_ptr_11_2, fw_ptr_11_3, fw_ptr_11_4, fw_ptr_11_5, fw_ptr_11_6, fw_ptr_17_8, fw_ptr_18_2, fw_ptr_18_3, fw_ptr_25_1, fw_ptr_27_2, fw_ptr_28_1, fw_ptr_32_0, fw_ptr_32_1, fw_ptr_32_3, fw_ptr_32_7, fw_ptr_32_8, fw_ptr_32_9, fw_ptr_32_10, fw_ptr_32_15, fw_ptr_32_16, fw_ptr_32_17, fw_ptr_32_18, fw_ptr_32_19, fw_ptr_32_25, fw_ptr_32_29, fw_ptr_3, fw_ptr_4, fw_ptr_5, fw_ptr_6, fw_ptr_7, fw_ptr_9, fw_ptr_10, fw_ptr_13, fw_ptr_15, fw_ptr_16, fw_ptr_19, fw_ptr_20, fw_ptr_21, fw_ptr_22, fw_ptr_23, fw_ptr_24, fw_ptr_26, fw_ptr_29, fw_ptr_30, fw_ptr_31, fw_ptr_33, fw_ptr_34, fw_ptr_35, fw_ptr_36, fw_ptr_37, fw_ptr_38, fw_ptr_39, fw_ptr_40, fw_ptr_41, fw_ptr_42, fw_ptr_43, fw_ptr_44, fw_ptr_45, fw_ptr_46, fw_ptr_47, fw_ptr_48, fw_ptr_49, fw_ptr_50, fw_ptr_51, fw_ptr_52, fw_ptr_53, fw_ptr_54, fw_ptr_55, fw_ptr_12, fw_ptr_x, fw_ptr_hi, fw_ptr_b3, fw_ptr_b1, fw_ptr_b2, fw_ptr_b2_]; assumption)) only [fw_b_145_0, fw_b_145_9, fw_b_145_12, fw_b_145_20, fw_b_145_25, fw_b_145_29, fw_b_145_47, fw_b_145_34, fw_b_145_39, fw_b_145_23, fw_b_145_16, e1, g1, ↓if_pos, ↓if_neg, if_neg, if_pos, fw_bs, fw_cn_0, fw_cn_1, fw_cn_2, fw_cn_3, fw_cn_4, fw_cn_5, Nat.reduceAdd, fw_w_id, fw_wl_id, fw_r_k, fw_r_j, fw_r_s, fw_r_x, if_true, if_false]
