/-! jam and free -/
theorem op_jam {t p : Int} {σ : fw_M} (h : fg_INV t σ) : fg_OK t (fun σ => fw_E 187 0 [(2, 1), (0, p), (2, 54), (8, 0)] [] σ) (fun σ => fw_E 137 0 [(2, 32), (0, p)] [] σ) σ := by
  obtain ⟨⟨hp, hk, hpk⟩, ⟨h3, h30, h36⟩, hN, h82, h113, h25, hP⟩ := fg_facts h
  have hIN := fg_IN_M h.1 (by omega : 200 * t ≤ 200 * (t + 1))
  obtain ⟨b0, b1, b2, b3, b4, b5⟩ := h.1.1.1.2.1
  obtain ⟨f1, f2, f3, f4⟩ := h.1.1.1.2.2.1
  have e2 := h.1.1.1.2.2.2.1
  have hna := fg_na_m h.1.1.1 p
  have en : fg_na σ p = fg_nm σ p := hna
  have hkind : fg_kind σ p ≠ 45 ↔ fg_stn σ p := by
    unfold fg_kind fg_stn
    rw [h113, en]
    constructor
    · intro hx
      by_cases c1 : p = 0
      · exact Or.inl c1
      · by_cases c2 : p = fw_r σ 32 1 - 1
        · exact Or.inr (Or.inl c2)
        · rw [if_neg c1, if_neg c2] at hx
          exact Or.inr (Or.inr (fun hy => hx (if_pos hy)))
    · intro hx
      split
      · decide
      · split
        · decide
        · rw [if_neg (by omega)]; decide
  have hjm : ∀ i, 0 ≤ i → i < fw_r σ 32 3 → fw_r σ 36 i = 0 ∨ fw_r σ 36 i = 1 := fun i x y => (e2 i x y).2.2.2
  by_cases c1 : fg_stn σ p
  · have r1 := fs_rStation_t (r := p) hp hk (hkind.mpr c1)
    have r2 := fs_isJammed (p := p) (a2 := (8, 0)) hp hk (by rw [b3]; exact f1) (by rw [b4]; exact f2) (fun i x y => by have := (e2 i x (by omega)).2.2; rw [this.1]; exact this.2) (hkind.mpr c1)
    have hjj : fg_jmd σ p = fg_jm σ p := by
      unfold fg_jmd fg_jm
      rw [h113, en, b3, b4]
      split
      · rfl
      · split
        · rfl
        · unfold fg_stn at c1
          rcases fg_nm_in (p := p) h30 with hx | hx
          · omega
          · exact (e2 _ hx.1 hx.2.1).2.2.1
    rw [hjj] at r2
    have hj01 : fg_jm σ p = 0 ∨ fg_jm σ p = 1 := by
      unfold fg_jm
      split
      · exact f1
      · split
        · exact f2
        · unfold fg_stn at c1
          rcases fg_nm_in (p := p) h30 with hx | hx
          · omega
          · exact hjm _ hx.1 hx.2.1
    by_cases c2 : fg_jm σ p = 0
    · obtain ⟨hI2, hsame, hp1⟩ := fg_IN_jam (v := 1) hIN hp (Or.inr rfl) c1
      have r3 := fs_setJammed (v := 1) (a3 := (8, 0)) hp hk (Or.inr rfl) (hkind.mpr c1)
      have CF2 := hI2.1.1
      obtain ⟨⟨g1, g2, g3⟩, ⟨-, -, -, gb3, gb4, -⟩, ⟨gf1, gf2, -, -⟩, ge2, -⟩ := CF2
      have r4 := fs_jams (a1 := (8, 0)) (a2 := (8, 0)) (a3 := (8, 0)) g1 g2 (by rw [gb3]; exact gf1) (by rw [gb4]; exact gf2) (fun i x y => by have := (ge2 i x (by omega)).2.2; rw [this.1]; exact this.2)
      have hsm3 : fw_r (fg_sm σ p 1) 32 3 = fw_r σ 32 3 := by unfold fg_sm; split; (try simp (disch := omega) only [fw_r_n, fw_r_s]); split; (try simp (disch := omega) only [fw_r_n, fw_r_s]); (try simp (disch := omega) only [fw_r_n, fw_r_s])
      have hJ : fw_r (fg_sj σ p 1) 11 5 + fw_r (fg_sj σ p 1) 11 6 + fg_sf (fg_jf (fg_sj σ p 1)) 0 (fw_r (fg_sj σ p 1) 11 2).toNat = fw_r (fg_sm σ p 1) 32 7 + fw_r (fg_sm σ p 1) 32 8 + fg_sf (fw_r (fg_sm σ p 1) 36) 0 (fg_n (fg_sm σ p 1)) := by
        rw [gb3, gb4]
        congr 1
        unfold fg_n
        rw [g3]
        exact fg_sf_ext _ _ (fun i x y => (ge2 i x (by omega)).2.2.1)
      rw [hJ] at r4
      generalize hJv : fw_r (fg_sm σ p 1) 32 7 + fw_r (fg_sm σ p 1) 32 8 + fg_sf (fw_r (fg_sm σ p 1) 36) 0 (fg_n (fg_sm σ p 1)) = J at *
      have hX : ∀ a j, 32 ≤ a → a ≤ 53 → (a ≠ 32 ∨ j ≠ 0) → fw_r (fw_u (fw_u (fg_sj σ p 1) 54 0 J) 32 0 0) a j = fw_r σ a j := fun a j x y z => by rw [fw_r_n _ (by omega), fw_r_n _ (by omega), hsame a j (by omega)]
      have hX0 : ∀ a j, 32 ≤ a → a ≤ 53 → fw_r (fw_u (fg_sj σ p 1) 54 0 J) a j = fw_r σ a j := fun a j x y => by rw [fw_r_n _ (by omega), hsame a j (by omega)]
      have hp2 : fw_ptr (fw_u (fg_sj σ p 1) 54 0 J) := by rw [fw_ptr_54]; exact hp1
      have hp3 : fw_ptr (fw_u (fw_u (fg_sj σ p 1) 54 0 J) 32 0 0) := by rw [fw_ptr_32_0]; exact hp2
      have nm1 : fg_nm (fw_u (fg_sj σ p 1) 54 0 J) p = fg_nm σ p := fg_nm_eq (hX0 _ _ (by decide) (by decide)) (fun j => hX0 _ _ (by decide) (by decide)) p
      have nm2 : fg_nm (fw_u (fw_u (fg_sj σ p 1) 54 0 J) 32 0 0) p = fg_nm σ p := fg_nm_eq (hX _ _ (by decide) (by decide) (by decide)) (fun j => hX _ _ (by decide) (by decide) (Or.inl (by decide))) p
      have st1 : fg_stn (fw_u (fg_sj σ p 1) 54 0 J) p := by unfold fg_stn at c1 ⊢; rw [nm1, hX0 32 1 (by decide) (by decide)]; exact c1
      have st2 : fg_stn (fw_u (fw_u (fg_sj σ p 1) 54 0 J) 32 0 0) p := by unfold fg_stn at c1 ⊢; rw [nm2, hX 32 1 (by decide) (by decide) (by decide)]; exact c1
      have jm1 : fg_jm (fw_u (fg_sj σ p 1) 54 0 J) p = fg_jm σ p := by unfold fg_jm; rw [nm1, hX0 32 1 (by decide) (by decide), hX0 32 7 (by decide) (by decide), hX0 32 8 (by decide) (by decide), hX0 36 _ (by decide) (by decide)]
      have m1 := fs_stnM_t hp2 (by rw [hX0 32 3 (by decide) (by decide)]; exact ⟨h30, h36⟩) (by rw [hX0 32 1 (by decide) (by decide)]; exact hN) st1
      have m2 := fs_jamAtM hp2 (by rw [hX0 32 3 (by decide) (by decide)]; exact ⟨h30, h36⟩) (by rw [hX0 32 1 (by decide) (by decide)]; exact hN) (by rw [hX0 32 7 (by decide) (by decide)]; exact f1) (by rw [hX0 32 8 (by decide) (by decide)]; exact f2) (fun i x y => by rw [hX0 32 3 (by decide) (by decide)] at y; rw [hX0 36 _ (by decide) (by decide)]; exact hjm i x y) st1
      rw [jm1] at m2
      have m3 := fs_goesOn_0 (m := fw_u (fg_sj σ p 1) 54 0 J)
      have m4 := fs_setsM (v := 1) hp3 (by rw [hX 32 3 (by decide) (by decide) (by decide)]; exact ⟨h30, h36⟩) (by rw [hX 32 1 (by decide) (by decide) (by decide)]; exact hN) (Or.inr rfl) st2
      have hAG : fg_AG (fg_sm σ p 1) (fg_sm (fw_u (fw_u (fg_sj σ p 1) 54 0 J) 32 0 0) p 1) := by
        unfold fg_sm
        rw [hX 32 1 (by decide) (by decide) (by decide), nm2]
        have base : fg_AG σ (fw_u (fw_u (fg_sj σ p 1) 54 0 J) 32 0 0) := fun a j x y z => hX a j x (by omega) z
        split
        · exact fg_AG_u base _ _ _
        · split
          · exact fg_AG_u base _ _ _
          · exact fg_AG_u base _ _ _
      have hZ : ∀ a j, (a ≠ 36 ∧ (a ≠ 32 ∨ (j ≠ 7 ∧ j ≠ 8))) → fw_r (fg_sm (fw_u (fw_u (fg_sj σ p 1) 54 0 J) 32 0 0) p 1) a j = fw_r (fw_u (fw_u (fg_sj σ p 1) 54 0 J) 32 0 0) a j := fun a j ha => by
        unfold fg_sm
        split
        · rw [fw_r_n _ (by omega)]
        · split
          · rw [fw_r_n _ (by omega)]
          · rw [fw_r_n _ (by omega)]
      have hp4 : fw_ptr (fg_sm (fw_u (fw_u (fg_sj σ p 1) 54 0 J) 32 0 0) p 1) := by
        unfold fg_sm
        split
        · rw [fw_ptr_32_7]; exact hp3
        · split
          · rw [fw_ptr_32_8]; exact hp3
          · rw [fw_ptr_36]; exact hp3
      have hgn : fg_n (fg_sm (fw_u (fw_u (fg_sj σ p 1) 54 0 J) 32 0 0) p 1) = fg_n (fg_sm σ p 1) := by unfold fg_n; rw [hAG 32 3 (by decide) (by decide) (by decide)]
      have m5 := fs_jamsM (a1 := (8, 0)) (a2 := (8, 0)) hp4 (by rw [hAG 32 3 (by decide) (by decide) (by decide), hsm3]; exact ⟨h30, h36⟩) (by rw [hAG 32 7 (by decide) (by decide) (by decide)]; exact gf1) (by rw [hAG 32 8 (by decide) (by decide) (by decide)]; exact gf2) (fun i x y => by
        rw [hAG 32 3 (by decide) (by decide) (by decide)] at y
        rw [hAG 36 i (by decide) (by decide) (Or.inl (by decide))]
        exact (ge2 i x y).2.2.2)
      have hJ2 : fw_r (fg_sm (fw_u (fw_u (fg_sj σ p 1) 54 0 J) 32 0 0) p 1) 32 7 + fw_r (fg_sm (fw_u (fw_u (fg_sj σ p 1) 54 0 J) 32 0 0) p 1) 32 8 + fg_sf (fw_r (fg_sm (fw_u (fw_u (fg_sj σ p 1) 54 0 J) 32 0 0) p 1) 36) 0 (fg_n (fg_sm (fw_u (fw_u (fg_sj σ p 1) 54 0 J) 32 0 0) p 1)) = J := by
        rw [hgn, hAG 32 7 (by decide) (by decide) (by decide), hAG 32 8 (by decide) (by decide) (by decide)]
        refine Eq.trans ?_ hJv
        congr 1
        exact fg_sf_ext _ _ (fun i x y => hAG 36 i (by decide) (by decide) (Or.inl (by decide)))
      rw [hJ2] at m5
      refine fg_OK_fin (v := J) (σ1 := fw_u (fg_sj σ p 1) 54 0 J) (σ2 := fg_sm (fw_u (fw_u (fg_sj σ p 1) 54 0 J) 32 0 0) p 1) h ?_ ?_ ?_ ?_ hI2 (fun a j ha => ?_) hAG hp4 ?_ ?_ ?_ ?_ (fun a j ha => ?_) (fun a j ha => by rw [fw_r_k _ (by omega)]; exact hsame a j (by omega))
      · simp (disch := first | assumption | first | omega | assumption | (simp (disch := omega) only [fw_w_id, fw_wl_id, fw_r_k, fw_r_j, fw_r_s]; omega) | (simp only [fw_ptr_1_8, fw_ptr_2_5, fw_ptr_2_6, fw_ptr_2_7, fw_ptr_2_8, fw_ptr_2_9, fw_ptr_8_2, fw_ptr_8_3, fw_ptr_11_2, fw_ptr_11_3, fw_ptr_11_4, fw_ptr_11_5, fw_ptr_11_6, fw_ptr_17_8, fw_ptr_18_2, fw_ptr_18_3, fw_ptr_25_1, fw_ptr_27_2, fw_ptr_28_1, fw_ptr_32_0, fw_ptr_32_1, fw_ptr_32_3, fw_ptr_32_7, fw_ptr_32_8, fw_ptr_32_9, fw_ptr_32_10, fw_ptr_32_15, fw_ptr_32_16, fw_ptr_32_17, fw_ptr_32_18, fw_ptr_32_19, fw_ptr_32_25, fw_ptr_32_29, fw_ptr_3, fw_ptr_4, fw_ptr_5, fw_ptr_6, fw_ptr_7, fw_ptr_9, fw_ptr_10, fw_ptr_13, fw_ptr_15, fw_ptr_16, fw_ptr_19, fw_ptr_20, fw_ptr_21, fw_ptr_22, fw_ptr_23, fw_ptr_24, fw_ptr_26, fw_ptr_29, fw_ptr_30, fw_ptr_31, fw_ptr_33, fw_ptr_34, fw_ptr_35, fw_ptr_36, fw_ptr_37, fw_ptr_38, fw_ptr_39, fw_ptr_40, fw_ptr_41, fw_ptr_42, fw_ptr_43, fw_ptr_44, fw_ptr_45, fw_ptr_46, fw_ptr_47, fw_ptr_48, fw_ptr_49, fw_ptr_50, fw_ptr_51, fw_ptr_52, fw_ptr_53, fw_ptr_54, fw_ptr_55, fw_ptr_12, fw_ptr_x, fw_ptr_hi, fw_ptr_b3, fw_ptr_b1, fw_ptr_b2, fw_ptr_b2_]; assumption)) only [fw_b_187_0, fw_b_187_15, fw_b_187_12, fw_b_187_7, fw_b_187_9, fw_h187_4, fw_h187_1, fw_b_73_0, fw_b_73_5, fw_b_73_13, fw_b_73_16, fw_b_73_24, fw_b_73_33, fw_b_73_40, fw_c9_73, r1, r2, r3, r4, c2, ↓if_pos, ↓if_neg, if_neg, if_pos, fw_bs, fw_cn_0, fw_cn_1, fw_cn_2, fw_cn_3, fw_cn_4, fw_cn_5, Nat.reduceAdd, fw_w_id, fw_wl_id, fw_r_k, fw_r_j, fw_r_s, fw_r_x, if_true, if_false]
      · simp (disch := first | assumption | first | omega | assumption | (simp (disch := omega) only [fw_w_id, fw_wl_id, fw_r_k, fw_r_j, fw_r_s]; omega) | (simp only [fw_ptr_1_8, fw_ptr_2_5, fw_ptr_2_6, fw_ptr_2_7, fw_ptr_2_8, fw_ptr_2_9, fw_ptr_8_2, fw_ptr_8_3, fw_ptr_11_2, fw_ptr_11_3, fw_ptr_11_4, fw_ptr_11_5, fw_ptr_11_6, fw_ptr_17_8, fw_ptr_18_2, fw_ptr_18_3, fw_ptr_25_1, fw_ptr_27_2, fw_ptr_28_1, fw_ptr_32_0, fw_ptr_32_1, fw_ptr_32_3, fw_ptr_32_7, fw_ptr_32_8, fw_ptr_32_9, fw_ptr_32_10, fw_ptr_32_15, fw_ptr_32_16, fw_ptr_32_17, fw_ptr_32_18, fw_ptr_32_19, fw_ptr_32_25, fw_ptr_32_29, fw_ptr_3, fw_ptr_4, fw_ptr_5, fw_ptr_6, fw_ptr_7, fw_ptr_9, fw_ptr_10, fw_ptr_13, fw_ptr_15, fw_ptr_16, fw_ptr_19, fw_ptr_20, fw_ptr_21, fw_ptr_22, fw_ptr_23, fw_ptr_24, fw_ptr_26, fw_ptr_29, fw_ptr_30, fw_ptr_31, fw_ptr_33, fw_ptr_34, fw_ptr_35, fw_ptr_36, fw_ptr_37, fw_ptr_38, fw_ptr_39, fw_ptr_40, fw_ptr_41, fw_ptr_42, fw_ptr_43, fw_ptr_44, fw_ptr_45, fw_ptr_46, fw_ptr_47, fw_ptr_48, fw_ptr_49, fw_ptr_50, fw_ptr_51, fw_ptr_52, fw_ptr_53, fw_ptr_54, fw_ptr_55, fw_ptr_12, fw_ptr_x, fw_ptr_hi, fw_ptr_b3, fw_ptr_b1, fw_ptr_b2, fw_ptr_b2_]; assumption)) only [fw_b_137_0, fw_b_137_6, fw_b_137_13, fw_b_137_18, fw_b_137_21, fw_b_137_29, fw_b_137_34, fw_b_137_40, fw_b_137_44, fw_b_137_32, fw_b_137_25, fw_b_137_9, m1, m2, m3, m4, m5, c2, ↓if_pos, ↓if_neg, if_pos, if_neg, fw_bs, fw_cn_0, fw_cn_5, Nat.reduceAdd]
      · rw [hZ _ _ (by decide), fw_r_s]
      · rw [hZ _ _ (by decide)]; (try simp (disch := omega) only [fw_r_n, fw_r_s])
      · rw [hZ _ _ (by omega)]; (try simp (disch := omega) only [fw_r_n, fw_r_s])
      · rw [hZ _ _ (by decide), fw_r_n _ (by decide), fw_r_n _ (by decide), hsame _ _ (by decide)]
      · rw [hZ _ _ (by decide), fw_r_n _ (by decide), fw_r_n _ (by decide), hsame _ _ (by decide)]
      · rw [hZ _ _ (by decide), fw_r_n _ (by decide), fw_r_n _ (by decide), hsame _ _ (by decide)]
      · rw [hZ _ _ (by decide), hX _ _ (by decide) (by decide) (by decide)]
      · rw [hZ _ _ (by omega), fw_r_n _ (by omega), fw_r_n _ (by omega), hsame _ _ (by omega)]
    · refine fg_OK_err (k := 2) (b := 0) h (by decide) ?_ ?_
      · have c3 : fg_jm σ p = 1 := by omega
        simp (disch := first | assumption | first | omega | assumption | (simp (disch := omega) only [fw_w_id, fw_wl_id, fw_r_k, fw_r_j, fw_r_s]; omega) | (simp only [fw_ptr_1_8, fw_ptr_2_5, fw_ptr_2_6, fw_ptr_2_7, fw_ptr_2_8, fw_ptr_2_9, fw_ptr_8_2, fw_ptr_8_3, fw_ptr_11_2, fw_ptr_11_3, fw_ptr_11_4, fw_ptr_11_5, fw_ptr_11_6, fw_ptr_17_8, fw_ptr_18_2, fw_ptr_18_3, fw_ptr_25_1, fw_ptr_27_2, fw_ptr_28_1, fw_ptr_32_0, fw_ptr_32_1, fw_ptr_32_3, fw_ptr_32_7, fw_ptr_32_8, fw_ptr_32_9, fw_ptr_32_10, fw_ptr_32_15, fw_ptr_32_16, fw_ptr_32_17, fw_ptr_32_18, fw_ptr_32_19, fw_ptr_32_25, fw_ptr_32_29, fw_ptr_3, fw_ptr_4, fw_ptr_5, fw_ptr_6, fw_ptr_7, fw_ptr_9, fw_ptr_10, fw_ptr_13, fw_ptr_15, fw_ptr_16, fw_ptr_19, fw_ptr_20, fw_ptr_21, fw_ptr_22, fw_ptr_23, fw_ptr_24, fw_ptr_26, fw_ptr_29, fw_ptr_30, fw_ptr_31, fw_ptr_33, fw_ptr_34, fw_ptr_35, fw_ptr_36, fw_ptr_37, fw_ptr_38, fw_ptr_39, fw_ptr_40, fw_ptr_41, fw_ptr_42, fw_ptr_43, fw_ptr_44, fw_ptr_45, fw_ptr_46, fw_ptr_47, fw_ptr_48, fw_ptr_49, fw_ptr_50, fw_ptr_51, fw_ptr_52, fw_ptr_53, fw_ptr_54, fw_ptr_55, fw_ptr_12, fw_ptr_x, fw_ptr_hi, fw_ptr_b3, fw_ptr_b1, fw_ptr_b2, fw_ptr_b2_]; assumption)) only [fw_b_187_0, fw_b_187_15, fw_b_187_12, fw_b_187_7, fw_b_187_9, fw_h187_4, fw_h187_1, fw_b_73_0, fw_b_73_5, fw_b_73_13, fw_b_73_16, fw_b_73_24, fw_b_73_33, fw_b_73_40, fw_c9_73, r1, r2, c3, ↓if_pos, ↓if_neg, if_neg, if_pos, fw_bs, fw_cn_0, fw_cn_1, fw_cn_2, fw_cn_3, fw_cn_4, fw_cn_5, Nat.reduceAdd, fw_w_id, fw_wl_id, fw_r_k, fw_r_j, fw_r_s, fw_r_x, if_true, if_false]
      · have c3 : fg_jm σ p = 1 := by omega
        have hxx : ∀ a j, a ≠ -1 → fw_r (fw_ex σ) a j = fw_r σ a j := fun a j ha => fw_r_x σ a j ha
        have nm1 : fg_nm (fw_ex σ) p = fg_nm σ p := fg_nm_eq (hxx _ _ (by decide)) (fun j => hxx _ _ (by decide)) p
        have st1 : fg_stn (fw_ex σ) p := by unfold fg_stn at c1 ⊢; rw [nm1, hxx 32 1 (by decide)]; exact c1
        have jm1 : fg_jm (fw_ex σ) p = fg_jm σ p := by unfold fg_jm; rw [nm1, hxx 32 1 (by decide), hxx 32 7 (by decide), hxx 32 8 (by decide), hxx 36 _ (by decide)]
        have hp2 : fw_ptr (fw_ex σ) := by rw [fw_ptr_x]; exact hp
        have m1 := fs_stnM_t hp2 (by rw [hxx 32 3 (by decide)]; exact ⟨h30, h36⟩) (by rw [hxx 32 1 (by decide)]; exact hN) st1
        have m2 := fs_jamAtM hp2 (by rw [hxx 32 3 (by decide)]; exact ⟨h30, h36⟩) (by rw [hxx 32 1 (by decide)]; exact hN) (by rw [hxx 32 7 (by decide)]; exact f1) (by rw [hxx 32 8 (by decide)]; exact f2) (fun i x y => by rw [hxx 32 3 (by decide)] at y; rw [hxx 36 _ (by decide)]; exact hjm i x y) st1
        rw [jm1, c3] at m2
        have m3 := fs_goesOn_n (m := fw_ex σ) (v := 2) (by decide)
        simp (disch := first | assumption | first | omega | assumption | (simp (disch := omega) only [fw_w_id, fw_wl_id, fw_r_k, fw_r_j, fw_r_s]; omega) | (simp only [fw_ptr_1_8, fw_ptr_2_5, fw_ptr_2_6, fw_ptr_2_7, fw_ptr_2_8, fw_ptr_2_9, fw_ptr_8_2, fw_ptr_8_3, fw_ptr_11_2, fw_ptr_11_3, fw_ptr_11_4, fw_ptr_11_5, fw_ptr_11_6, fw_ptr_17_8, fw_ptr_18_2, fw_ptr_18_3, fw_ptr_25_1, fw_ptr_27_2, fw_ptr_28_1, fw_ptr_32_0, fw_ptr_32_1, fw_ptr_32_3, fw_ptr_32_7, fw_ptr_32_8, fw_ptr_32_9, fw_ptr_32_10, fw_ptr_32_15, fw_ptr_32_16, fw_ptr_32_17, fw_ptr_32_18, fw_ptr_32_19, fw_ptr_32_25, fw_ptr_32_29, fw_ptr_3, fw_ptr_4, fw_ptr_5, fw_ptr_6, fw_ptr_7, fw_ptr_9, fw_ptr_10, fw_ptr_13, fw_ptr_15, fw_ptr_16, fw_ptr_19, fw_ptr_20, fw_ptr_21, fw_ptr_22, fw_ptr_23, fw_ptr_24, fw_ptr_26, fw_ptr_29, fw_ptr_30, fw_ptr_31, fw_ptr_33, fw_ptr_34, fw_ptr_35, fw_ptr_36, fw_ptr_37, fw_ptr_38, fw_ptr_39, fw_ptr_40, fw_ptr_41, fw_ptr_42, fw_ptr_43, fw_ptr_44, fw_ptr_45, fw_ptr_46, fw_ptr_47, fw_ptr_48, fw_ptr_49, fw_ptr_50, fw_ptr_51, fw_ptr_52, fw_ptr_53, fw_ptr_54, fw_ptr_55, fw_ptr_12, fw_ptr_x, fw_ptr_hi, fw_ptr_b3, fw_ptr_b1, fw_ptr_b2, fw_ptr_b2_]; assumption)) only [fw_b_137_0, fw_b_137_6, fw_b_137_13, fw_b_137_18, fw_b_137_21, fw_b_137_29, fw_b_137_34, fw_b_137_40, fw_b_137_44, fw_b_137_32, fw_b_137_25, fw_b_137_9, m1, m2, m3, ↓if_pos, ↓if_neg, if_pos, if_neg, fw_bs, fw_cn_0, fw_cn_5, Nat.reduceAdd]
  · refine fg_OK_err (k := 1) (b := 0) h (by decide) ?_ ?_
    · have hq : fg_kind σ p = 45 := Classical.byContradiction (fun hx => c1 (hkind.mp hx))
      have r1 := fs_rStation_f (r := p) hp hk hq
      simp (disch := first | assumption | first | omega | assumption | (simp (disch := omega) only [fw_w_id, fw_wl_id, fw_r_k, fw_r_j, fw_r_s]; omega) | (simp only [fw_ptr_1_8, fw_ptr_2_5, fw_ptr_2_6, fw_ptr_2_7, fw_ptr_2_8, fw_ptr_2_9, fw_ptr_8_2, fw_ptr_8_3, fw_ptr_11_2, fw_ptr_11_3, fw_ptr_11_4, fw_ptr_11_5, fw_ptr_11_6, fw_ptr_17_8, fw_ptr_18_2, fw_ptr_18_3, fw_ptr_25_1, fw_ptr_27_2, fw_ptr_28_1, fw_ptr_32_0, fw_ptr_32_1, fw_ptr_32_3, fw_ptr_32_7, fw_ptr_32_8, fw_ptr_32_9, fw_ptr_32_10, fw_ptr_32_15, fw_ptr_32_16, fw_ptr_32_17, fw_ptr_32_18, fw_ptr_32_19, fw_ptr_32_25, fw_ptr_32_29, fw_ptr_3, fw_ptr_4, fw_ptr_5, fw_ptr_6, fw_ptr_7, fw_ptr_9, fw_ptr_10, fw_ptr_13, fw_ptr_15, fw_ptr_16, fw_ptr_19, fw_ptr_20, fw_ptr_21, fw_ptr_22, fw_ptr_23, fw_ptr_24, fw_ptr_26, fw_ptr_29, fw_ptr_30, fw_ptr_31, fw_ptr_33, fw_ptr_34, fw_ptr_35, fw_ptr_36, fw_ptr_37, fw_ptr_38, fw_ptr_39, fw_ptr_40, fw_ptr_41, fw_ptr_42, fw_ptr_43, fw_ptr_44, fw_ptr_45, fw_ptr_46, fw_ptr_47, fw_ptr_48, fw_ptr_49, fw_ptr_50, fw_ptr_51, fw_ptr_52, fw_ptr_53, fw_ptr_54, fw_ptr_55, fw_ptr_12, fw_ptr_x, fw_ptr_hi, fw_ptr_b3, fw_ptr_b1, fw_ptr_b2, fw_ptr_b2_]; assumption)) only [fw_b_187_0, fw_b_187_15, fw_b_187_12, fw_b_187_7, fw_b_187_9, fw_h187_4, fw_h187_1, fw_b_73_0, fw_b_73_5, fw_b_73_13, fw_b_73_16, fw_b_73_24, fw_b_73_33, fw_b_73_40, fw_c9_73, r1, ↓if_pos, ↓if_neg, if_neg, if_pos, fw_bs, fw_cn_0, fw_cn_1, fw_cn_2, fw_cn_3, fw_cn_4, fw_cn_5, Nat.reduceAdd, fw_w_id, fw_wl_id, fw_r_k, fw_r_j, fw_r_s, fw_r_x, if_true, if_false]
    · have hxx : ∀ a j, a ≠ -1 → fw_r (fw_ex σ) a j = fw_r σ a j := fun a j ha => fw_r_x σ a j ha
      have nm1 : fg_nm (fw_ex σ) p = fg_nm σ p := fg_nm_eq (hxx _ _ (by decide)) (fun j => hxx _ _ (by decide)) p
      have st1 : ¬fg_stn (fw_ex σ) p := by unfold fg_stn at c1 ⊢; rw [nm1, hxx 32 1 (by decide)]; exact c1
      have hp2 : fw_ptr (fw_ex σ) := by rw [fw_ptr_x]; exact hp
      have m1 := fs_stnM_f hp2 (by rw [hxx 32 3 (by decide)]; exact ⟨h30, h36⟩) (by rw [hxx 32 1 (by decide)]; exact hN) st1
      have m3 := fs_goesOn_n (m := fw_ex σ) (v := 1) (by decide)
      simp (disch := first | assumption | first | omega | assumption | (simp (disch := omega) only [fw_w_id, fw_wl_id, fw_r_k, fw_r_j, fw_r_s]; omega) | (simp only [fw_ptr_1_8, fw_ptr_2_5, fw_ptr_2_6, fw_ptr_2_7, fw_ptr_2_8, fw_ptr_2_9, fw_ptr_8_2, fw_ptr_8_3, fw_ptr_11_2, fw_ptr_11_3, fw_ptr_11_4, fw_ptr_11_5, fw_ptr_11_6, fw_ptr_17_8, fw_ptr_18_2, fw_ptr_18_3, fw_ptr_25_1, fw_ptr_27_2, fw_ptr_28_1, fw_ptr_32_0, fw_ptr_32_1, fw_ptr_32_3, fw_ptr_32_7, fw_ptr_32_8, fw_ptr_32_9, fw_ptr_32_10, fw_ptr_32_15, fw_ptr_32_16, fw_ptr_32_17, fw_ptr_32_18, fw_ptr_32_19, fw_ptr_32_25, fw_ptr_32_29, fw_ptr_3, fw_ptr_4, fw_ptr_5, fw_ptr_6, fw_ptr_7, fw_ptr_9, fw_ptr_10, fw_ptr_13, fw_ptr_15, fw_ptr_16, fw_ptr_19, fw_ptr_20, fw_ptr_21, fw_ptr_22, fw_ptr_23, fw_ptr_24, fw_ptr_26, fw_ptr_29, fw_ptr_30, fw_ptr_31, fw_ptr_33, fw_ptr_34, fw_ptr_35, fw_ptr_36, fw_ptr_37, fw_ptr_38, fw_ptr_39, fw_ptr_40, fw_ptr_41, fw_ptr_42, fw_ptr_43, fw_ptr_44, fw_ptr_45, fw_ptr_46, fw_ptr_47, fw_ptr_48, fw_ptr_49, fw_ptr_50, fw_ptr_51, fw_ptr_52, fw_ptr_53, fw_ptr_54, fw_ptr_55, fw_ptr_12, fw_ptr_x, fw_ptr_hi, fw_ptr_b3, fw_ptr_b1, fw_ptr_b2, fw_ptr_b2_]; assumption)) only [fw_b_137_0, fw_b_137_6, fw_b_137_13, fw_b_137_18, fw_b_137_21, fw_b_137_29, fw_b_137_34, fw_b_137_40, fw_b_137_44, fw_b_137_32, fw_b_137_25, fw_b_137_9, m1, m3, ↓if_pos, ↓if_neg, if_pos, if_neg, fw_bs, fw_cn_0, fw_cn_5, Nat.reduceAdd]
theorem op_free {t p : Int} {σ : fw_M} (h : fg_INV t σ) : fg_OK t (fun σ => fw_E 188 0 [(2, 1), (0, p), (2, 54), (8, 0)] [] σ) (fun σ => fw_E 138 0 [(2, 32), (0, p)] [] σ) σ := by
  obtain ⟨⟨hp, hk, hpk⟩, ⟨h3, h30, h36⟩, hN, h82, h113, h25, hP⟩ := fg_facts h
  have hIN := fg_IN_M h.1 (by omega : 200 * t ≤ 200 * (t + 1))
  obtain ⟨b0, b1, b2, b3, b4, b5⟩ := h.1.1.1.2.1
  obtain ⟨f1, f2, f3, f4⟩ := h.1.1.1.2.2.1
  have e2 := h.1.1.1.2.2.2.1
  have hna := fg_na_m h.1.1.1 p
  have en : fg_na σ p = fg_nm σ p := hna
  have hkind : fg_kind σ p ≠ 45 ↔ fg_stn σ p := by
    unfold fg_kind fg_stn
    rw [h113, en]
    constructor
    · intro hx
      by_cases c1 : p = 0
      · exact Or.inl c1
      · by_cases c2 : p = fw_r σ 32 1 - 1
        · exact Or.inr (Or.inl c2)
        · rw [if_neg c1, if_neg c2] at hx
          exact Or.inr (Or.inr (fun hy => hx (if_pos hy)))
    · intro hx
      split
      · decide
      · split
        · decide
        · rw [if_neg (by omega)]; decide
  have hjm : ∀ i, 0 ≤ i → i < fw_r σ 32 3 → fw_r σ 36 i = 0 ∨ fw_r σ 36 i = 1 := fun i x y => (e2 i x y).2.2.2
  by_cases c1 : fg_stn σ p
  · have r1 := fs_rStation_t (r := p) hp hk (hkind.mpr c1)
    have r2 := fs_isJammed (p := p) (a2 := (8, 0)) hp hk (by rw [b3]; exact f1) (by rw [b4]; exact f2) (fun i x y => by have := (e2 i x (by omega)).2.2; rw [this.1]; exact this.2) (hkind.mpr c1)
    have hjj : fg_jmd σ p = fg_jm σ p := by
      unfold fg_jmd fg_jm
      rw [h113, en, b3, b4]
      split
      · rfl
      · split
        · rfl
        · unfold fg_stn at c1
          rcases fg_nm_in (p := p) h30 with hx | hx
          · omega
          · exact (e2 _ hx.1 hx.2.1).2.2.1
    rw [hjj] at r2
    have hj01 : fg_jm σ p = 0 ∨ fg_jm σ p = 1 := by
      unfold fg_jm
      split
      · exact f1
      · split
        · exact f2
        · unfold fg_stn at c1
          rcases fg_nm_in (p := p) h30 with hx | hx
          · omega
          · exact hjm _ hx.1 hx.2.1
    by_cases c2 : fg_jm σ p = 1
    · obtain ⟨hI2, hsame, hp1⟩ := fg_IN_jam (v := 0) hIN hp (Or.inl rfl) c1
      have r3 := fs_setJammed (v := 0) (a3 := (8, 0)) hp hk (Or.inl rfl) (hkind.mpr c1)
      have CF2 := hI2.1.1
      obtain ⟨⟨g1, g2, g3⟩, ⟨-, -, -, gb3, gb4, -⟩, ⟨gf1, gf2, -, -⟩, ge2, -⟩ := CF2
      have r4 := fs_jams (a1 := (8, 0)) (a2 := (8, 0)) (a3 := (8, 0)) g1 g2 (by rw [gb3]; exact gf1) (by rw [gb4]; exact gf2) (fun i x y => by have := (ge2 i x (by omega)).2.2; rw [this.1]; exact this.2)
      have hsm3 : fw_r (fg_sm σ p 0) 32 3 = fw_r σ 32 3 := by unfold fg_sm; split; (try simp (disch := omega) only [fw_r_n, fw_r_s]); split; (try simp (disch := omega) only [fw_r_n, fw_r_s]); (try simp (disch := omega) only [fw_r_n, fw_r_s])
      have hJ : fw_r (fg_sj σ p 0) 11 5 + fw_r (fg_sj σ p 0) 11 6 + fg_sf (fg_jf (fg_sj σ p 0)) 0 (fw_r (fg_sj σ p 0) 11 2).toNat = fw_r (fg_sm σ p 0) 32 7 + fw_r (fg_sm σ p 0) 32 8 + fg_sf (fw_r (fg_sm σ p 0) 36) 0 (fg_n (fg_sm σ p 0)) := by
        rw [gb3, gb4]
        congr 1
        unfold fg_n
        rw [g3]
        exact fg_sf_ext _ _ (fun i x y => (ge2 i x (by omega)).2.2.1)
      rw [hJ] at r4
      generalize hJv : fw_r (fg_sm σ p 0) 32 7 + fw_r (fg_sm σ p 0) 32 8 + fg_sf (fw_r (fg_sm σ p 0) 36) 0 (fg_n (fg_sm σ p 0)) = J at *
      have hX : ∀ a j, 32 ≤ a → a ≤ 53 → (a ≠ 32 ∨ j ≠ 0) → fw_r (fw_u (fw_u (fg_sj σ p 0) 54 0 J) 32 0 0) a j = fw_r σ a j := fun a j x y z => by rw [fw_r_n _ (by omega), fw_r_n _ (by omega), hsame a j (by omega)]
      have hX0 : ∀ a j, 32 ≤ a → a ≤ 53 → fw_r (fw_u (fg_sj σ p 0) 54 0 J) a j = fw_r σ a j := fun a j x y => by rw [fw_r_n _ (by omega), hsame a j (by omega)]
      have hp2 : fw_ptr (fw_u (fg_sj σ p 0) 54 0 J) := by rw [fw_ptr_54]; exact hp1
      have hp3 : fw_ptr (fw_u (fw_u (fg_sj σ p 0) 54 0 J) 32 0 0) := by rw [fw_ptr_32_0]; exact hp2
      have nm1 : fg_nm (fw_u (fg_sj σ p 0) 54 0 J) p = fg_nm σ p := fg_nm_eq (hX0 _ _ (by decide) (by decide)) (fun j => hX0 _ _ (by decide) (by decide)) p
      have nm2 : fg_nm (fw_u (fw_u (fg_sj σ p 0) 54 0 J) 32 0 0) p = fg_nm σ p := fg_nm_eq (hX _ _ (by decide) (by decide) (by decide)) (fun j => hX _ _ (by decide) (by decide) (Or.inl (by decide))) p
      have st1 : fg_stn (fw_u (fg_sj σ p 0) 54 0 J) p := by unfold fg_stn at c1 ⊢; rw [nm1, hX0 32 1 (by decide) (by decide)]; exact c1
      have st2 : fg_stn (fw_u (fw_u (fg_sj σ p 0) 54 0 J) 32 0 0) p := by unfold fg_stn at c1 ⊢; rw [nm2, hX 32 1 (by decide) (by decide) (by decide)]; exact c1
      have jm1 : fg_jm (fw_u (fg_sj σ p 0) 54 0 J) p = fg_jm σ p := by unfold fg_jm; rw [nm1, hX0 32 1 (by decide) (by decide), hX0 32 7 (by decide) (by decide), hX0 32 8 (by decide) (by decide), hX0 36 _ (by decide) (by decide)]
      have m1 := fs_stnM_t hp2 (by rw [hX0 32 3 (by decide) (by decide)]; exact ⟨h30, h36⟩) (by rw [hX0 32 1 (by decide) (by decide)]; exact hN) st1
      have m2 := fs_jamAtM hp2 (by rw [hX0 32 3 (by decide) (by decide)]; exact ⟨h30, h36⟩) (by rw [hX0 32 1 (by decide) (by decide)]; exact hN) (by rw [hX0 32 7 (by decide) (by decide)]; exact f1) (by rw [hX0 32 8 (by decide) (by decide)]; exact f2) (fun i x y => by rw [hX0 32 3 (by decide) (by decide)] at y; rw [hX0 36 _ (by decide) (by decide)]; exact hjm i x y) st1
      rw [jm1] at m2
      have m3 := fs_goesOn_0 (m := fw_u (fg_sj σ p 0) 54 0 J)
      have m4 := fs_setsM (v := 0) hp3 (by rw [hX 32 3 (by decide) (by decide) (by decide)]; exact ⟨h30, h36⟩) (by rw [hX 32 1 (by decide) (by decide) (by decide)]; exact hN) (Or.inl rfl) st2
      have hAG : fg_AG (fg_sm σ p 0) (fg_sm (fw_u (fw_u (fg_sj σ p 0) 54 0 J) 32 0 0) p 0) := by
        unfold fg_sm
        rw [hX 32 1 (by decide) (by decide) (by decide), nm2]
        have base : fg_AG σ (fw_u (fw_u (fg_sj σ p 0) 54 0 J) 32 0 0) := fun a j x y z => hX a j x (by omega) z
        split
        · exact fg_AG_u base _ _ _
        · split
          · exact fg_AG_u base _ _ _
          · exact fg_AG_u base _ _ _
      have hZ : ∀ a j, (a ≠ 36 ∧ (a ≠ 32 ∨ (j ≠ 7 ∧ j ≠ 8))) → fw_r (fg_sm (fw_u (fw_u (fg_sj σ p 0) 54 0 J) 32 0 0) p 0) a j = fw_r (fw_u (fw_u (fg_sj σ p 0) 54 0 J) 32 0 0) a j := fun a j ha => by
        unfold fg_sm
        split
        · rw [fw_r_n _ (by omega)]
        · split
          · rw [fw_r_n _ (by omega)]
          · rw [fw_r_n _ (by omega)]
      have hp4 : fw_ptr (fg_sm (fw_u (fw_u (fg_sj σ p 0) 54 0 J) 32 0 0) p 0) := by
        unfold fg_sm
        split
        · rw [fw_ptr_32_7]; exact hp3
        · split
          · rw [fw_ptr_32_8]; exact hp3
          · rw [fw_ptr_36]; exact hp3
      have hgn : fg_n (fg_sm (fw_u (fw_u (fg_sj σ p 0) 54 0 J) 32 0 0) p 0) = fg_n (fg_sm σ p 0) := by unfold fg_n; rw [hAG 32 3 (by decide) (by decide) (by decide)]
      have m5 := fs_jamsM (a1 := (8, 0)) (a2 := (8, 0)) hp4 (by rw [hAG 32 3 (by decide) (by decide) (by decide), hsm3]; exact ⟨h30, h36⟩) (by rw [hAG 32 7 (by decide) (by decide) (by decide)]; exact gf1) (by rw [hAG 32 8 (by decide) (by decide) (by decide)]; exact gf2) (fun i x y => by
        rw [hAG 32 3 (by decide) (by decide) (by decide)] at y
        rw [hAG 36 i (by decide) (by decide) (Or.inl (by decide))]
        exact (ge2 i x y).2.2.2)
      have hJ2 : fw_r (fg_sm (fw_u (fw_u (fg_sj σ p 0) 54 0 J) 32 0 0) p 0) 32 7 + fw_r (fg_sm (fw_u (fw_u (fg_sj σ p 0) 54 0 J) 32 0 0) p 0) 32 8 + fg_sf (fw_r (fg_sm (fw_u (fw_u (fg_sj σ p 0) 54 0 J) 32 0 0) p 0) 36) 0 (fg_n (fg_sm (fw_u (fw_u (fg_sj σ p 0) 54 0 J) 32 0 0) p 0)) = J := by
        rw [hgn, hAG 32 7 (by decide) (by decide) (by decide), hAG 32 8 (by decide) (by decide) (by decide)]
        refine Eq.trans ?_ hJv
        congr 1
        exact fg_sf_ext _ _ (fun i x y => hAG 36 i (by decide) (by decide) (Or.inl (by decide)))
      rw [hJ2] at m5
      refine fg_OK_fin (v := J) (σ1 := fw_u (fg_sj σ p 0) 54 0 J) (σ2 := fg_sm (fw_u (fw_u (fg_sj σ p 0) 54 0 J) 32 0 0) p 0) h ?_ ?_ ?_ ?_ hI2 (fun a j ha => ?_) hAG hp4 ?_ ?_ ?_ ?_ (fun a j ha => ?_) (fun a j ha => by rw [fw_r_k _ (by omega)]; exact hsame a j (by omega))
      · simp (disch := first | assumption | first | omega | assumption | (simp (disch := omega) only [fw_w_id, fw_wl_id, fw_r_k, fw_r_j, fw_r_s]; omega) | (simp only [fw_ptr_1_8, fw_ptr_2_5, fw_ptr_2_6, fw_ptr_2_7, fw_ptr_2_8, fw_ptr_2_9, fw_ptr_8_2, fw_ptr_8_3, fw_ptr_11_2, fw_ptr_11_3, fw_ptr_11_4, fw_ptr_11_5, fw_ptr_11_6, fw_ptr_17_8, fw_ptr_18_2, fw_ptr_18_3, fw_ptr_25_1, fw_ptr_27_2, fw_ptr_28_1, fw_ptr_32_0, fw_ptr_32_1, fw_ptr_32_3, fw_ptr_32_7, fw_ptr_32_8, fw_ptr_32_9, fw_ptr_32_10, fw_ptr_32_15, fw_ptr_32_16, fw_ptr_32_17, fw_ptr_32_18, fw_ptr_32_19, fw_ptr_32_25, fw_ptr_32_29, fw_ptr_3, fw_ptr_4, fw_ptr_5, fw_ptr_6, fw_ptr_7, fw_ptr_9, fw_ptr_10, fw_ptr_13, fw_ptr_15, fw_ptr_16, fw_ptr_19, fw_ptr_20, fw_ptr_21, fw_ptr_22, fw_ptr_23, fw_ptr_24, fw_ptr_26, fw_ptr_29, fw_ptr_30, fw_ptr_31, fw_ptr_33, fw_ptr_34, fw_ptr_35, fw_ptr_36, fw_ptr_37, fw_ptr_38, fw_ptr_39, fw_ptr_40, fw_ptr_41, fw_ptr_42, fw_ptr_43, fw_ptr_44, fw_ptr_45, fw_ptr_46, fw_ptr_47, fw_ptr_48, fw_ptr_49, fw_ptr_50, fw_ptr_51, fw_ptr_52, fw_ptr_53, fw_ptr_54, fw_ptr_55, fw_ptr_12, fw_ptr_x, fw_ptr_hi, fw_ptr_b3, fw_ptr_b1, fw_ptr_b2, fw_ptr_b2_]; assumption)) only [fw_b_188_0, fw_b_188_15, fw_b_188_12, fw_b_188_7, fw_b_188_9, fw_h188_4, fw_h188_1, fw_b_74_0, fw_b_74_5, fw_b_74_13, fw_b_74_24, fw_b_74_33, fw_b_74_40, fw_b_74_16, fw_c9_74, r1, r2, r3, r4, c2, ↓if_pos, ↓if_neg, if_neg, if_pos, fw_bs, fw_cn_0, fw_cn_1, fw_cn_2, fw_cn_3, fw_cn_4, fw_cn_5, Nat.reduceAdd, fw_w_id, fw_wl_id, fw_r_k, fw_r_j, fw_r_s, fw_r_x, if_true, if_false]
      · simp (disch := first | assumption | first | omega | assumption | (simp (disch := omega) only [fw_w_id, fw_wl_id, fw_r_k, fw_r_j, fw_r_s]; omega) | (simp only [fw_ptr_1_8, fw_ptr_2_5, fw_ptr_2_6, fw_ptr_2_7, fw_ptr_2_8, fw_ptr_2_9, fw_ptr_8_2, fw_ptr_8_3, fw_ptr_11_2, fw_ptr_11_3, fw_ptr_11_4, fw_ptr_11_5, fw_ptr_11_6, fw_ptr_17_8, fw_ptr_18_2, fw_ptr_18_3, fw_ptr_25_1, fw_ptr_27_2, fw_ptr_28_1, fw_ptr_32_0, fw_ptr_32_1, fw_ptr_32_3, fw_ptr_32_7, fw_ptr_32_8, fw_ptr_32_9, fw_ptr_32_10, fw_ptr_32_15, fw_ptr_32_16, fw_ptr_32_17, fw_ptr_32_18, fw_ptr_32_19, fw_ptr_32_25, fw_ptr_32_29, fw_ptr_3, fw_ptr_4, fw_ptr_5, fw_ptr_6, fw_ptr_7, fw_ptr_9, fw_ptr_10, fw_ptr_13, fw_ptr_15, fw_ptr_16, fw_ptr_19, fw_ptr_20, fw_ptr_21, fw_ptr_22, fw_ptr_23, fw_ptr_24, fw_ptr_26, fw_ptr_29, fw_ptr_30, fw_ptr_31, fw_ptr_33, fw_ptr_34, fw_ptr_35, fw_ptr_36, fw_ptr_37, fw_ptr_38, fw_ptr_39, fw_ptr_40, fw_ptr_41, fw_ptr_42, fw_ptr_43, fw_ptr_44, fw_ptr_45, fw_ptr_46, fw_ptr_47, fw_ptr_48, fw_ptr_49, fw_ptr_50, fw_ptr_51, fw_ptr_52, fw_ptr_53, fw_ptr_54, fw_ptr_55, fw_ptr_12, fw_ptr_x, fw_ptr_hi, fw_ptr_b3, fw_ptr_b1, fw_ptr_b2, fw_ptr_b2_]; assumption)) only [fw_b_138_0, fw_b_138_6, fw_b_138_13, fw_b_138_18, fw_b_138_25, fw_b_138_29, fw_b_138_34, fw_b_138_40, fw_b_138_44, fw_b_138_32, fw_b_138_21, fw_b_138_9, m1, m2, m3, m4, m5, c2, ↓if_pos, ↓if_neg, if_pos, if_neg, fw_bs, fw_cn_0, fw_cn_5, Nat.reduceAdd]
      · rw [hZ _ _ (by decide), fw_r_s]
      · rw [hZ _ _ (by decide)]; (try simp (disch := omega) only [fw_r_n, fw_r_s])
      · rw [hZ _ _ (by omega)]; (try simp (disch := omega) only [fw_r_n, fw_r_s])
      · rw [hZ _ _ (by decide), fw_r_n _ (by decide), fw_r_n _ (by decide), hsame _ _ (by decide)]
      · rw [hZ _ _ (by decide), fw_r_n _ (by decide), fw_r_n _ (by decide), hsame _ _ (by decide)]
      · rw [hZ _ _ (by decide), fw_r_n _ (by decide), fw_r_n _ (by decide), hsame _ _ (by decide)]
      · rw [hZ _ _ (by decide), hX _ _ (by decide) (by decide) (by decide)]
      · rw [hZ _ _ (by omega), fw_r_n _ (by omega), fw_r_n _ (by omega), hsame _ _ (by omega)]
    · refine fg_OK_err (k := 2) (b := 0) h (by decide) ?_ ?_
      · have c3 : fg_jm σ p = 0 := by omega
        simp (disch := first | assumption | first | omega | assumption | (simp (disch := omega) only [fw_w_id, fw_wl_id, fw_r_k, fw_r_j, fw_r_s]; omega) | (simp only [fw_ptr_1_8, fw_ptr_2_5, fw_ptr_2_6, fw_ptr_2_7, fw_ptr_2_8, fw_ptr_2_9, fw_ptr_8_2, fw_ptr_8_3, fw_ptr_11_2, fw_ptr_11_3, fw_ptr_11_4, fw_ptr_11_5, fw_ptr_11_6, fw_ptr_17_8, fw_ptr_18_2, fw_ptr_18_3, fw_ptr_25_1, fw_ptr_27_2, fw_ptr_28_1, fw_ptr_32_0, fw_ptr_32_1, fw_ptr_32_3, fw_ptr_32_7, fw_ptr_32_8, fw_ptr_32_9, fw_ptr_32_10, fw_ptr_32_15, fw_ptr_32_16, fw_ptr_32_17, fw_ptr_32_18, fw_ptr_32_19, fw_ptr_32_25, fw_ptr_32_29, fw_ptr_3, fw_ptr_4, fw_ptr_5, fw_ptr_6, fw_ptr_7, fw_ptr_9, fw_ptr_10, fw_ptr_13, fw_ptr_15, fw_ptr_16, fw_ptr_19, fw_ptr_20, fw_ptr_21, fw_ptr_22, fw_ptr_23, fw_ptr_24, fw_ptr_26, fw_ptr_29, fw_ptr_30, fw_ptr_31, fw_ptr_33, fw_ptr_34, fw_ptr_35, fw_ptr_36, fw_ptr_37, fw_ptr_38, fw_ptr_39, fw_ptr_40, fw_ptr_41, fw_ptr_42, fw_ptr_43, fw_ptr_44, fw_ptr_45, fw_ptr_46, fw_ptr_47, fw_ptr_48, fw_ptr_49, fw_ptr_50, fw_ptr_51, fw_ptr_52, fw_ptr_53, fw_ptr_54, fw_ptr_55, fw_ptr_12, fw_ptr_x, fw_ptr_hi, fw_ptr_b3, fw_ptr_b1, fw_ptr_b2, fw_ptr_b2_]; assumption)) only [fw_b_188_0, fw_b_188_15, fw_b_188_12, fw_b_188_7, fw_b_188_9, fw_h188_4, fw_h188_1, fw_b_74_0, fw_b_74_5, fw_b_74_13, fw_b_74_24, fw_b_74_33, fw_b_74_40, fw_b_74_16, fw_c9_74, r1, r2, c3, ↓if_pos, ↓if_neg, if_neg, if_pos, fw_bs, fw_cn_0, fw_cn_1, fw_cn_2, fw_cn_3, fw_cn_4, fw_cn_5, Nat.reduceAdd, fw_w_id, fw_wl_id, fw_r_k, fw_r_j, fw_r_s, fw_r_x, if_true, if_false]
      · have c3 : fg_jm σ p = 0 := by omega
        have hxx : ∀ a j, a ≠ -1 → fw_r (fw_ex σ) a j = fw_r σ a j := fun a j ha => fw_r_x σ a j ha
        have nm1 : fg_nm (fw_ex σ) p = fg_nm σ p := fg_nm_eq (hxx _ _ (by decide)) (fun j => hxx _ _ (by decide)) p
        have st1 : fg_stn (fw_ex σ) p := by unfold fg_stn at c1 ⊢; rw [nm1, hxx 32 1 (by decide)]; exact c1
        have jm1 : fg_jm (fw_ex σ) p = fg_jm σ p := by unfold fg_jm; rw [nm1, hxx 32 1 (by decide), hxx 32 7 (by decide), hxx 32 8 (by decide), hxx 36 _ (by decide)]
        have hp2 : fw_ptr (fw_ex σ) := by rw [fw_ptr_x]; exact hp
        have m1 := fs_stnM_t hp2 (by rw [hxx 32 3 (by decide)]; exact ⟨h30, h36⟩) (by rw [hxx 32 1 (by decide)]; exact hN) st1
        have m2 := fs_jamAtM hp2 (by rw [hxx 32 3 (by decide)]; exact ⟨h30, h36⟩) (by rw [hxx 32 1 (by decide)]; exact hN) (by rw [hxx 32 7 (by decide)]; exact f1) (by rw [hxx 32 8 (by decide)]; exact f2) (fun i x y => by rw [hxx 32 3 (by decide)] at y; rw [hxx 36 _ (by decide)]; exact hjm i x y) st1
        rw [jm1, c3] at m2
        have m3 := fs_goesOn_n (m := fw_ex σ) (v := 2) (by decide)
        simp (disch := first | assumption | first | omega | assumption | (simp (disch := omega) only [fw_w_id, fw_wl_id, fw_r_k, fw_r_j, fw_r_s]; omega) | (simp only [fw_ptr_1_8, fw_ptr_2_5, fw_ptr_2_6, fw_ptr_2_7, fw_ptr_2_8, fw_ptr_2_9, fw_ptr_8_2, fw_ptr_8_3, fw_ptr_11_2, fw_ptr_11_3, fw_ptr_11_4, fw_ptr_11_5, fw_ptr_11_6, fw_ptr_17_8, fw_ptr_18_2, fw_ptr_18_3, fw_ptr_25_1, fw_ptr_27_2, fw_ptr_28_1, fw_ptr_32_0, fw_ptr_32_1, fw_ptr_32_3, fw_ptr_32_7, fw_ptr_32_8, fw_ptr_32_9, fw_ptr_32_10, fw_ptr_32_15, fw_ptr_32_16, fw_ptr_32_17, fw_ptr_32_18, fw_ptr_32_19, fw_ptr_32_25, fw_ptr_32_29, fw_ptr_3, fw_ptr_4, fw_ptr_5, fw_ptr_6, fw_ptr_7, fw_ptr_9, fw_ptr_10, fw_ptr_13, fw_ptr_15, fw_ptr_16, fw_ptr_19, fw_ptr_20, fw_ptr_21, fw_ptr_22, fw_ptr_23, fw_ptr_24, fw_ptr_26, fw_ptr_29, fw_ptr_30, fw_ptr_31, fw_ptr_33, fw_ptr_34, fw_ptr_35, fw_ptr_36, fw_ptr_37, fw_ptr_38, fw_ptr_39, fw_ptr_40, fw_ptr_41, fw_ptr_42, fw_ptr_43, fw_ptr_44, fw_ptr_45, fw_ptr_46, fw_ptr_47, fw_ptr_48, fw_ptr_49, fw_ptr_50, fw_ptr_51, fw_ptr_52, fw_ptr_53, fw_ptr_54, fw_ptr_55, fw_ptr_12, fw_ptr_x, fw_ptr_hi, fw_ptr_b3, fw_ptr_b1, fw_ptr_b2, fw_ptr_b2_]; assumption)) only [fw_b_138_0, fw_b_138_6, fw_b_138_13, fw_b_138_18, fw_b_138_25, fw_b_138_29, fw_b_138_34, fw_b_138_40, fw_b_138_44, fw_b_138_32, fw_b_138_21, fw_b_138_9, m1, m2, m3, ↓if_pos, ↓if_neg, if_pos, if_neg, fw_bs, fw_cn_0, fw_cn_5, Nat.reduceAdd]
  · refine fg_OK_err (k := 1) (b := 0) h (by decide) ?_ ?_
    · have hq : fg_kind σ p = 45 := Classical.byContradiction (fun hx => c1 (hkind.mp hx))
      have r1 := fs_rStation_f (r := p) hp hk hq
      simp (disch := first | assumption | first | omega | assumption | (simp (disch := omega) only [fw_w_id, fw_wl_id, fw_r_k, fw_r_j, fw_r_s]; omega) | (simp only [fw_ptr_1_8, fw_ptr_2_5, fw_ptr_2_6, fw_ptr_2_7, fw_ptr_2_8, fw_ptr_2_9, fw_ptr_8_2, fw_ptr_8_3, fw_ptr_11_2, fw_ptr_11_3, fw_ptr_11_4, fw_ptr_11_5, fw_ptr_11_6, fw_ptr_17_8, fw_ptr_18_2, fw_ptr_18_3, fw_ptr_25_1, fw_ptr_27_2, fw_ptr_28_1, fw_ptr_32_0, fw_ptr_32_1, fw_ptr_32_3, fw_ptr_32_7, fw_ptr_32_8, fw_ptr_32_9, fw_ptr_32_10, fw_ptr_32_15, fw_ptr_32_16, fw_ptr_32_17, fw_ptr_32_18, fw_ptr_32_19, fw_ptr_32_25, fw_ptr_32_29, fw_ptr_3, fw_ptr_4, fw_ptr_5, fw_ptr_6, fw_ptr_7, fw_ptr_9, fw_ptr_10, fw_ptr_13, fw_ptr_15, fw_ptr_16, fw_ptr_19, fw_ptr_20, fw_ptr_21, fw_ptr_22, fw_ptr_23, fw_ptr_24, fw_ptr_26, fw_ptr_29, fw_ptr_30, fw_ptr_31, fw_ptr_33, fw_ptr_34, fw_ptr_35, fw_ptr_36, fw_ptr_37, fw_ptr_38, fw_ptr_39, fw_ptr_40, fw_ptr_41, fw_ptr_42, fw_ptr_43, fw_ptr_44, fw_ptr_45, fw_ptr_46, fw_ptr_47, fw_ptr_48, fw_ptr_49, fw_ptr_50, fw_ptr_51, fw_ptr_52, fw_ptr_53, fw_ptr_54, fw_ptr_55, fw_ptr_12, fw_ptr_x, fw_ptr_hi, fw_ptr_b3, fw_ptr_b1, fw_ptr_b2, fw_ptr_b2_]; assumption)) only [fw_b_188_0, fw_b_188_15, fw_b_188_12, fw_b_188_7, fw_b_188_9, fw_h188_4, fw_h188_1, fw_b_74_0, fw_b_74_5, fw_b_74_13, fw_b_74_24, fw_b_74_33, fw_b_74_40, fw_b_74_16, fw_c9_74, r1, ↓if_pos, ↓if_neg, if_neg, if_pos, fw_bs, fw_cn_0, fw_cn_1, fw_cn_2, fw_cn_3, fw_cn_4, fw_cn_5, Nat.reduceAdd, fw_w_id, fw_wl_id, fw_r_k, fw_r_j, fw_r_s, fw_r_x, if_true, if_false]
    · have hxx : ∀ a j, a ≠ -1 → fw_r (fw_ex σ) a j = fw_r σ a j := fun a j ha => fw_r_x σ a j ha
      have nm1 : fg_nm (fw_ex σ) p = fg_nm σ p := fg_nm_eq (hxx _ _ (by decide)) (fun j => hxx _ _ (by decide)) p
      have st1 : ¬fg_stn (fw_ex σ) p := by unfold fg_stn at c1 ⊢; rw [nm1, hxx 32 1 (by decide)]; exact c1
      have hp2 : fw_ptr (fw_ex σ) := by rw [fw_ptr_x]; exact hp
      have m1 := fs_stnM_f hp2 (by rw [hxx 32 3 (by decide)]; exact ⟨h30, h36⟩) (by rw [hxx 32 1 (by decide)]; exact hN) st1
      have m3 := fs_goesOn_n (m := fw_ex σ) (v := 1) (by decide)
      simp (disch := first | assumption | first | omega | assumption | (simp (disch := omega) only [fw_w_id, fw_wl_id, fw_r_k, fw_r_j, fw_r_s]; omega) | (simp only [fw_ptr_1_8, fw_ptr_2_5, fw_ptr_2_6, fw_ptr_2_7, fw_ptr_2_8, fw_ptr_2_9, fw_ptr_8_2, fw_ptr_8_3, fw_ptr_11_2, fw_ptr_11_3, fw_ptr_11_4, fw_ptr_11_5, fw_ptr_11_6, fw_ptr_17_8, fw_ptr_18_2, fw_ptr_18_3, fw_ptr_25_1, fw_ptr_27_2, fw_ptr_28_1, fw_ptr_32_0, fw_ptr_32_1, fw_ptr_32_3, fw_ptr_32_7, fw_ptr_32_8, fw_ptr_32_9, fw_ptr_32_10, fw_ptr_32_15, fw_ptr_32_16, fw_ptr_32_17, fw_ptr_32_18, fw_ptr_32_19, fw_ptr_32_25, fw_ptr_32_29, fw_ptr_3, fw_ptr_4, fw_ptr_5, fw_ptr_6, fw_ptr_7, fw_ptr_9, fw_ptr_10, fw_ptr_13, fw_ptr_15, fw_ptr_16, fw_ptr_19, fw_ptr_20, fw_ptr_21, fw_ptr_22, fw_ptr_23, fw_ptr_24, fw_ptr_26, fw_ptr_29, fw_ptr_30, fw_ptr_31, fw_ptr_33, fw_ptr_34, fw_ptr_35, fw_ptr_36, fw_ptr_37, fw_ptr_38, fw_ptr_39, fw_ptr_40, fw_ptr_41, fw_ptr_42, fw_ptr_43, fw_ptr_44, fw_ptr_45, fw_ptr_46, fw_ptr_47, fw_ptr_48, fw_ptr_49, fw_ptr_50, fw_ptr_51, fw_ptr_52, fw_ptr_53, fw_ptr_54, fw_ptr_55, fw_ptr_12, fw_ptr_x, fw_ptr_hi, fw_ptr_b3, fw_ptr_b1, fw_ptr_b2, fw_ptr_b2_]; assumption)) only [fw_b_138_0, fw_b_138_6, fw_b_138_13, fw_b_138_18, fw_b_138_25, fw_b_138_29, fw_b_138_34, fw_b_138_40, fw_b_138_44, fw_b_138_32, fw_b_138_21, fw_b_138_9, m1, m3, ↓if_pos, ↓if_neg, if_pos, if_neg, fw_bs, fw_cn_0, fw_cn_5, Nat.reduceAdd]
