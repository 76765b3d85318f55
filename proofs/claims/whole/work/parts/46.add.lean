/-! arrive -/
def fg_car (σ : fw_M) (P r w : Int) : fw_M := fw_u (fw_u (fw_u (fw_u σ 3 P r) 4 P w) 5 P 119) 2 5 (P + 1)
def fg_mar (σ : fw_M) (P r w : Int) : fw_M := fw_u (fw_u (fw_u σ 37 P r) 38 P w) 32 10 (P + 1)
theorem fg_IN_arrive {M P r w : Int} {σ : fw_M} (h : fg_IN M σ σ) (hP : fw_r σ 32 10 = P) (hl : P < 300) (hr : 0 ≤ r ∧ r < 8) (hw : 1 ≤ w ∧ w ≤ 9) : fg_IN M (fg_car σ P r w) (fg_mar σ P r w) ∧ fw_ptr (fg_car σ P r w) := by
  obtain ⟨gA, gB, gC, gD, gE, gF, gG, gH, gI⟩ := h
  obtain ⟨⟨a1, a2, a3⟩, ⟨b0, b1, b2, b3, b4, b5⟩, ⟨f1, f2, f3, f4⟩, e2, e3, e4, e5⟩ := gA.1
  have hF := gB.2.1.2.1
  have hp1 : fw_ptr (fg_car σ P r w) := by unfold fg_car; rw [fw_ptr_2_5, fw_ptr_5, fw_ptr_4, fw_ptr_3]; exact a1
  have hp2 : fw_ptr (fg_mar σ P r w) := by unfold fg_mar; rw [fw_ptr_32_10, fw_ptr_38, fw_ptr_37]; exact a1
  have oc : ∀ a j, (a ≠ 3 ∨ j ≠ P) → (a ≠ 4 ∨ j ≠ P) → (a ≠ 5 ∨ j ≠ P) → (a ≠ 2 ∨ j ≠ 5) → fw_r (fg_car σ P r w) a j = fw_r σ a j := fun a j x y z u => by unfold fg_car; (try simp (disch := omega) only [fw_r_n, fw_r_s])
  have om : ∀ a j, (a ≠ 37 ∨ j ≠ P) → (a ≠ 38 ∨ j ≠ P) → (a ≠ 32 ∨ j ≠ 10) → fw_r (fg_mar σ P r w) a j = fw_r σ a j := fun a j x y z => by unfold fg_mar; (try simp (disch := omega) only [fw_r_n, fw_r_s])
  have c3 : fw_r (fg_car σ P r w) 3 P = r := by unfold fg_car; (try simp (disch := omega) only [fw_r_n, fw_r_s])
  have c4 : fw_r (fg_car σ P r w) 4 P = w := by unfold fg_car; (try simp (disch := omega) only [fw_r_n, fw_r_s])
  have c5 : fw_r (fg_car σ P r w) 5 P = 119 := by unfold fg_car; (try simp (disch := omega) only [fw_r_n, fw_r_s])
  have c25 : fw_r (fg_car σ P r w) 2 5 = P + 1 := by unfold fg_car; (try simp (disch := omega) only [fw_r_n, fw_r_s])
  have m37 : fw_r (fg_mar σ P r w) 37 P = r := by unfold fg_mar; (try simp (disch := omega) only [fw_r_n, fw_r_s])
  have m38 : fw_r (fg_mar σ P r w) 38 P = w := by unfold fg_mar; (try simp (disch := omega) only [fw_r_n, fw_r_s])
  have m10 : fw_r (fg_mar σ P r w) 32 10 = P + 1 := by unfold fg_mar; (try simp (disch := omega) only [fw_r_n, fw_r_s])
  have oc' : ∀ a j, a ≠ 3 → a ≠ 4 → a ≠ 5 → a ≠ 2 → fw_r (fg_car σ P r w) a j = fw_r σ a j := fun a j x y z u => oc a j (Or.inl x) (Or.inl y) (Or.inl z) (Or.inl u)
  have oc2 : ∀ j, j ≠ 5 → fw_r (fg_car σ P r w) 2 j = fw_r σ 2 j := fun j x => oc 2 j (Or.inl (by decide)) (Or.inl (by decide)) (Or.inl (by decide)) (Or.inr x)
  have om' : ∀ a j, a ≠ 37 → a ≠ 38 → a ≠ 32 → fw_r (fg_mar σ P r w) a j = fw_r σ a j := fun a j x y z => om a j (Or.inl x) (Or.inl y) (Or.inl z)
  have om2 : ∀ j, j ≠ 10 → fw_r (fg_mar σ P r w) 32 j = fw_r σ 32 j := fun j x => om 32 j (Or.inl (by decide)) (Or.inl (by decide)) (Or.inr x)
  have x1 := om2 1 (by decide)
  have x3 := om2 3 (by decide)
  have x15 := om2 15 (by decide)
  generalize fg_car σ P r w = c at *
  generalize fg_mar σ P r w = m at *
  have hk1 : fg_cok c := fg_cok_c a2 (oc' _ _ (by decide) (by decide) (by decide) (by decide)) (fun j => oc' _ _ (by decide) (by decide) (by decide) (by decide)) (fun i hi => oc' _ _ (by omega) (by omega) (by omega) (by omega)) (fun i hi => oc' _ _ (by omega) (by omega) (by omega) (by omega))
  refine ⟨⟨?_, ?_, ?_, ?_, ?_, ?_, ?_, ?_, ?_⟩, hp1⟩
  · refine ⟨⟨⟨hp1, hk1, by rw [oc' 11 2 (by decide) (by decide) (by decide) (by decide), x3]; exact a3⟩, ⟨by rw [x1]; exact b0, by rw [oc' 11 3 (by decide) (by decide) (by decide) (by decide), x1]; exact b1, by rw [oc' 11 4 (by decide) (by decide) (by decide) (by decide), om2 9 (by decide)]; exact b2, by rw [oc' 11 5 (by decide) (by decide) (by decide) (by decide), om2 7 (by decide)]; exact b3, by rw [oc' 11 6 (by decide) (by decide) (by decide) (by decide), om2 8 (by decide)]; exact b4, by rw [c25, m10]⟩, ⟨by rw [om2 7 (by decide)]; exact f1, by rw [om2 8 (by decide)]; exact f2, by rw [om2 9 (by decide)]; exact f3, by rw [m10]; omega⟩, fun i x y => ?_, fun i j x y z w' e => ?_, fun q x y => ?_, fun q x y => ?_⟩, hp2⟩
    · rw [x3] at y
      rw [oc' _ _ (by omega) (by omega) (by omega) (by omega), oc' _ _ (by omega) (by omega) (by omega) (by omega), oc' _ _ (by omega) (by omega) (by omega) (by omega), om' 34 _ (by decide) (by decide) (by decide), om' 35 _ (by decide) (by decide) (by decide), om' 36 _ (by decide) (by decide) (by decide), x1]
      exact e2 i x y
    · rw [x3] at y w'
      rw [om' 34 _ (by decide) (by decide) (by decide), om' 34 _ (by decide) (by decide) (by decide)] at e
      exact e3 i j x y z w' e
    · rw [m10] at y
      by_cases hq : q = P
      · subst hq; rw [c3, m37]; exact ⟨rfl, hr⟩
      · rw [oc 3 _ (Or.inr hq) (Or.inl (by decide)) (Or.inl (by decide)) (Or.inl (by decide)), om 37 _ (Or.inr hq) (Or.inl (by decide)) (Or.inl (by decide))]
        exact e4 q x (by omega)
    · rw [oc' 13 _ (by decide) (by decide) (by decide) (by decide), om' 41 _ (by decide) (by decide) (by decide), x3]
      exact e5 q x y
  · obtain ⟨g1, g2, g3⟩ := gB
    obtain ⟨t1, t2, t3, t4, t5⟩ := g2
    have o33 : ∀ j, fw_r m 33 j = fw_r σ 33 j := fun j => om' 33 _ (by decide) (by decide) (by decide)
    have o40 : ∀ j, fw_r m 40 j = fw_r σ 40 j := fun j => om' 40 _ (by decide) (by decide) (by decide)
    refine ⟨fg_RB_m (fg_RB_c g1 (fun j => oc' _ _ (by decide) (by decide) (by decide) (by decide)) (fun j => oc' _ _ (by decide) (by decide) (by decide) (by decide)) (fun j => oc' _ _ (by decide) (by decide) (by decide) (by decide))) x1 o33 o40, ⟨by rw [x1]; exact t1, by rw [x15, m10]; omega, fun p x y => by rw [x1] at y; rw [o33, x15]; exact t3 p x y, fun p q x y z w' e ne => by rw [x1] at y w'; rw [o33] at e ne; rw [o33] at e; exact t4 p q x y z w' e ne, fun p x y => ?_⟩, fun p x y => by rw [x1] at x; rw [o33]; exact g3 p x y⟩
    rw [x15] at x
    rw [m10] at y
    rw [o40]
    by_cases hq : p = P
    · exact (gC.2.2.2.2 p (by omega) (by omega)).2
    · exact t5 p x (by omega)
  · obtain ⟨g1, g2, g3, g4, g5⟩ := gC
    refine ⟨by rw [oc2 6 (by decide), x15]; exact g1, by rw [oc' 1 8 (by decide) (by decide) (by decide) (by decide), om2 16 (by decide)]; exact g2, by rw [om2 16 (by decide)]; exact g3, fun q x y => ?_, fun q x y => ?_⟩
    · rw [m10] at y
      rw [om' 39 _ (by decide) (by decide) (by decide), om' 40 _ (by decide) (by decide) (by decide), x15, oc' 6 _ (by decide) (by decide) (by decide) (by decide), oc' 7 _ (by decide) (by decide) (by decide) (by decide), om' 47 _ (by decide) (by decide) (by decide)]
      by_cases hq : q = P
      · subst hq
        have z := g5 q (by omega) hl
        rw [c4, m38, c5, z.1, z.2]
        refine ⟨⟨rfl, hw⟩, by omega, rfl, ⟨fun _ => by omega, fun _ => rfl⟩, fun e => by omega, fun e => by omega, by omega⟩
      · rw [oc 4 _ (Or.inl (by decide)) (Or.inr hq) (Or.inl (by decide)) (Or.inl (by decide)), om 38 _ (Or.inl (by decide)) (Or.inr hq) (Or.inl (by decide)), oc 5 _ (Or.inl (by decide)) (Or.inl (by decide)) (Or.inr hq) (Or.inl (by decide))]
        exact g4 q x (by omega)
    · rw [m10] at x
      rw [om' 39 _ (by decide) (by decide) (by decide), om' 40 _ (by decide) (by decide) (by decide)]
      exact g5 q (by omega) y
  · exact fg_gD_c gD (oc2 _ (by decide)) (oc2 _ (by decide)) (oc2 _ (by decide)) (oc' _ _ (by decide) (by decide) (by decide) (by decide)) (oc' _ _ (by decide) (by decide) (by decide) (by decide)) x15 (om2 _ (by decide)) (om2 _ (by decide)) (om2 _ (by decide)) (om2 _ (by decide)) (fun j => om' _ _ (by decide) (by decide) (by decide))
  · exact fg_gE_c gE (fun i hi => ⟨oc' _ _ (by omega) (by omega) (by omega) (by omega), oc' _ _ (by omega) (by omega) (by omega) (by omega), oc' _ _ (by omega) (by omega) (by omega) (by omega), fun k => oc' _ _ (by omega) (by omega) (by omega) (by omega)⟩) x3 x15 (fun j => om' _ _ (by decide) (by decide) (by decide)) (fun j => om' _ _ (by decide) (by decide) (by decide)) (fun j => om' _ _ (by decide) (by decide) (by decide)) (fun j => om' _ _ (by decide) (by decide) (by decide)) (fun j => om' _ _ (by decide) (by decide) (by decide)) (fun j => om' _ _ (by decide) (by decide) (by decide)) (fun j => om' _ _ (by decide) (by decide) (by decide))
  · exact fg_gF_c gF x1 (fun j => om' _ _ (by decide) (by decide) (by decide)) (fun j => om' _ _ (by decide) (by decide) (by decide))
  · exact fg_gG_c gG (fun j => oc' _ _ (by decide) (by decide) (by decide) (by decide)) x15 (om2 _ (by decide)) (fun j => om' _ _ (by decide) (by decide) (by decide))
  · exact fg_gH_c gH (oc' _ _ (by decide) (by decide) (by decide) (by decide)) (oc' _ _ (by decide) (by decide) (by decide) (by decide)) (fun j => oc' _ _ (by decide) (by decide) (by decide) (by decide)) (fun j => oc' _ _ (by decide) (by decide) (by decide) (by decide)) x15 (om2 _ (by decide)) (fun j => om' _ _ (by decide) (by decide) (by decide)) (fun j => om' _ _ (by decide) (by decide) (by decide)) (fun j => om' _ _ (by decide) (by decide) (by decide)) (fun j => om' _ _ (by decide) (by decide) (by decide))
  · intro q hq
    have g := gI q hq
    rw [fg_chs_c x3 (fun j => om' _ _ (by decide) (by decide) (by decide)) (fun j => om' _ _ (by decide) (by decide) (by decide)) q, fg_cnt_c (fun j => om' 33 j (by decide) (by decide) (by decide)), fg_cnt_c (fun j => oc' 29 j (by decide) (by decide) (by decide) (by decide)), fg_cnt_c (fun j => oc' 26 j (by decide) (by decide) (by decide) (by decide)), oc' 28 1 (by decide) (by decide) (by decide) (by decide), x1, x15, om2 19 (by decide), m10]
    rw [hP] at g
    by_cases z : q = P
    · rw [if_neg (by omega), if_neg (by omega)] at g
      rw [if_pos (by omega), if_pos (by omega)]; omega
    · by_cases z2 : q < P
      · rw [if_pos z2] at g
        rw [if_pos (by omega : q < P + 1)]
        by_cases z3 : fw_r σ 32 15 ≤ q
        · rw [if_pos ⟨z3, z2⟩] at g
          rw [if_pos ⟨z3, by omega⟩]; exact g
        · rw [if_neg (fun hx => z3 hx.1)] at g
          rw [if_neg (fun hx => z3 hx.1)]; exact g
      · rw [if_neg z2, if_neg (by omega)] at g
        rw [if_neg (by omega), if_neg (by omega)]; exact g
theorem op_arrive {t r w : Int} {σ : fw_M} (h : fg_INV t σ) : fg_OK t (fun σ => fw_E 190 0 [(2, 1), (0, r), (0, w), (2, 54), (8, 0)] [] σ) (fun σ => fw_E 149 0 [(2, 32), (0, r), (0, w), (8, 0)] [] σ) σ := by
  obtain ⟨⟨hp, hk, hpk⟩, ⟨h3, h30, h36⟩, hN, h82, h113, h25, hP⟩ := fg_facts h
  have hIN := fg_IN_M h.1 (by omega : 200 * t ≤ 200 * (t + 1))
  have hp2 : fw_ptr (fw_ex σ) := by rw [fw_ptr_x]; exact hp
  have g1 := fs_goesOn_n (m := fw_ex σ) (v := 1) (by decide)
  have g2 := fs_goesOn_n (m := fw_ex σ) (v := 2) (by decide)
  by_cases c1 : 0 ≤ r ∧ r < 8
  · have r1 := fs_isRoute_t (σ := σ) c1.1 c1.2
    have m1 := fs_isIn_t (m := fw_ex σ) (v := r) (lo := 0) (hi := 7) (by omega)
    by_cases c2 : 1 ≤ w ∧ w ≤ 9
    · have m2 := fs_isIn_t (m := fw_ex σ) (v := w) (lo := 1) (hi := 9) c2
      by_cases c3 : fw_r σ 32 10 = 300
      · refine fg_OK_err (k := 2) (b := 0) h (by decide) ?_ ?_
        · simp (disch := first | assumption | first | omega | assumption | (simp (disch := omega) only [fw_w_id, fw_wl_id, fw_r_k, fw_r_j, fw_r_s]; omega) | (simp only [fw_ptr_1_8, fw_ptr_2_5, fw_ptr_2_6, fw_ptr_2_7, fw_ptr_2_8, fw_ptr_2_9, fw_ptr_8_2, fw_ptr_8_3, fw_ptr_11_2, fw_ptr_11_3, fw_ptr_11_4, fw_ptr_11_5, fw_ptr_11_6, fw_ptr_17_8, fw_ptr_18_2, fw_ptr_18_3, fw_ptr_25_1, fw_ptr_27_2, fw_ptr_28_1, fw_ptr_32_0, fw_ptr_32_1, fw_ptr_32_3, fw_ptr_32_7, fw_ptr_32_8, fw_ptr_32_9, fw_ptr_32_10, fw_ptr_32_15, fw_ptr_32_16, fw_ptr_32_17, fw_ptr_32_18, fw_ptr_32_19, fw_ptr_32_25, fw_ptr_32_29, fw_ptr_3, fw_ptr_4, fw_ptr_5, fw_ptr_6, fw_ptr_7, fw_ptr_9, fw_ptr_10, fw_ptr_13, fw_ptr_15, fw_ptr_16, fw_ptr_19, fw_ptr_20, fw_ptr_21, fw_ptr_22, fw_ptr_23, fw_ptr_24, fw_ptr_26, fw_ptr_29, fw_ptr_30, fw_ptr_31, fw_ptr_33, fw_ptr_34, fw_ptr_35, fw_ptr_36, fw_ptr_37, fw_ptr_38, fw_ptr_39, fw_ptr_40, fw_ptr_41, fw_ptr_42, fw_ptr_43, fw_ptr_44, fw_ptr_45, fw_ptr_46, fw_ptr_47, fw_ptr_48, fw_ptr_49, fw_ptr_50, fw_ptr_51, fw_ptr_52, fw_ptr_53, fw_ptr_54, fw_ptr_55, fw_ptr_12, fw_ptr_x, fw_ptr_hi, fw_ptr_b3, fw_ptr_b1, fw_ptr_b2, fw_ptr_b2_]; assumption)) only [fw_b_190_0, fw_b_190_17, fw_b_190_13, fw_b_190_8, fw_b_190_10, fw_h190_0, fw_h190_1, fw_b_76_0, fw_b_76_4, fw_b_76_7, fw_b_76_12, fw_b_76_26, fw_b_76_39, fw_b_76_47, fw_b_76_56, fw_b_76_18, fw_c9_76, r1, ↓if_pos, ↓if_neg, if_neg, if_pos, fw_bs, fw_cn_0, fw_cn_1, fw_cn_2, fw_cn_3, fw_cn_4, fw_cn_5, Nat.reduceAdd, fw_w_id, fw_wl_id, fw_r_k, fw_r_j, fw_r_s, fw_r_x, if_true, if_false]
        · simp (disch := first | assumption | first | omega | assumption | (simp (disch := omega) only [fw_w_id, fw_wl_id, fw_r_k, fw_r_j, fw_r_s]; omega) | (simp only [fw_ptr_1_8, fw_ptr_2_5, fw_ptr_2_6, fw_ptr_2_7, fw_ptr_2_8, fw_ptr_2_9, fw_ptr_8_2, fw_ptr_8_3, fw_ptr_11_2, fw_ptr_11_3, fw_ptr_11_4, fw_ptr_11_5, fw_ptr_11_6, fw_ptr_17_8, fw_ptr_18_2, fw_ptr_18_3, fw_ptr_25_1, fw_ptr_27_2, fw_ptr_28_1, fw_ptr_32_0, fw_ptr_32_1, fw_ptr_32_3, fw_ptr_32_7, fw_ptr_32_8, fw_ptr_32_9, fw_ptr_32_10, fw_ptr_32_15, fw_ptr_32_16, fw_ptr_32_17, fw_ptr_32_18, fw_ptr_32_19, fw_ptr_32_25, fw_ptr_32_29, fw_ptr_3, fw_ptr_4, fw_ptr_5, fw_ptr_6, fw_ptr_7, fw_ptr_9, fw_ptr_10, fw_ptr_13, fw_ptr_15, fw_ptr_16, fw_ptr_19, fw_ptr_20, fw_ptr_21, fw_ptr_22, fw_ptr_23, fw_ptr_24, fw_ptr_26, fw_ptr_29, fw_ptr_30, fw_ptr_31, fw_ptr_33, fw_ptr_34, fw_ptr_35, fw_ptr_36, fw_ptr_37, fw_ptr_38, fw_ptr_39, fw_ptr_40, fw_ptr_41, fw_ptr_42, fw_ptr_43, fw_ptr_44, fw_ptr_45, fw_ptr_46, fw_ptr_47, fw_ptr_48, fw_ptr_49, fw_ptr_50, fw_ptr_51, fw_ptr_52, fw_ptr_53, fw_ptr_54, fw_ptr_55, fw_ptr_12, fw_ptr_x, fw_ptr_hi, fw_ptr_b3, fw_ptr_b1, fw_ptr_b2, fw_ptr_b2_]; assumption)) only [fw_b_149_0, fw_b_149_7, fw_b_149_10, fw_b_149_17, fw_b_149_24, fw_b_149_38, fw_b_149_45, fw_b_149_50, fw_b_149_60, fw_b_149_70, fw_b_149_80, fw_b_149_48, fw_b_149_34, fw_b_149_20, m1, m2, g2, ↓if_pos, ↓if_neg, if_neg, if_pos, fw_bs, fw_cn_0, fw_cn_1, fw_cn_2, fw_cn_3, fw_cn_4, fw_cn_5, Nat.reduceAdd, fw_w_id, fw_wl_id, fw_r_k, fw_r_j, fw_r_s, fw_r_x, if_true, if_false]
      · obtain ⟨hI2, hp1⟩ := fg_IN_arrive hIN rfl (by omega) c1 c2
        have r4 := fs_add (r := r) (w := w) (a3 := (8, 0)) hp hpk (by omega)
        rw [h25] at r4
        have hc : ∀ a j, (a < 2 ∨ 5 < a) → fw_r (fg_car σ (fw_r σ 32 10) r w) a j = fw_r σ a j := fun a j ha => by unfold fg_car; (try simp (disch := omega) only [fw_r_n, fw_r_s])
        have hp3 : fw_ptr (fw_u (fg_car σ (fw_r σ 32 10) r w) 54 0 (fw_r σ 32 10)) := by rw [fw_ptr_54]; exact hp1
        have hp4 : fw_ptr (fw_u (fw_u (fg_car σ (fw_r σ 32 10) r w) 54 0 (fw_r σ 32 10)) 32 0 0) := by rw [fw_ptr_32_0]; exact hp3
        have e10 : fw_r (fw_u (fg_car σ (fw_r σ 32 10) r w) 54 0 (fw_r σ 32 10)) 32 10 = fw_r σ 32 10 := by rw [fw_r_n _ (by decide), hc _ _ (by decide)]
        have m1 := fs_isIn_t (m := fw_u (fg_car σ (fw_r σ 32 10) r w) 54 0 (fw_r σ 32 10)) (v := r) (lo := 0) (hi := 7) (by omega)
        have m2 := fs_isIn_t (m := fw_u (fg_car σ (fw_r σ 32 10) r w) 54 0 (fw_r σ 32 10)) (v := w) (lo := 1) (hi := 9) c2
        have m4 := fs_goesOn_0 (m := fw_u (fg_car σ (fw_r σ 32 10) r w) 54 0 (fw_r σ 32 10))
        refine fg_OK_fin (v := fw_r σ 32 10) (σ1 := fw_u (fg_car σ (fw_r σ 32 10) r w) 54 0 (fw_r σ 32 10)) (σ2 := fg_mar (fw_u (fw_u (fg_car σ (fw_r σ 32 10) r w) 54 0 (fw_r σ 32 10)) 32 0 0) (fw_r σ 32 10) r w) h ?_ ?_ ?_ ?_ hI2 (fun a j ha => by unfold fg_mar; (try simp (disch := omega) only [fw_r_n, fw_r_s])) (fg_AG_u (fg_AG_u (fg_AG_u (fun a j x y z => by rw [fw_r_n _ (by omega), fw_r_n _ (by omega), hc _ _ (by omega)]) _ _ _) _ _ _) _ _ _) (by unfold fg_mar; rw [fw_ptr_32_10, fw_ptr_38, fw_ptr_37]; exact hp4) ?_ ?_ ?_ ?_ (fun a j ha => ?_) (fun a j ha => by rw [fw_r_k _ (by omega)]; exact hc a j (by omega))
        · have r5 : fw_E 34 0 [(2, 2), (0, r), (0, w), (8, 0)] [] σ = some ((0, fw_r σ 32 10), fg_car σ (fw_r σ 32 10) r w) := r4
          simp (disch := first | assumption | first | omega | assumption | (simp (disch := omega) only [fw_w_id, fw_wl_id, fw_r_k, fw_r_j, fw_r_s]; omega) | (simp only [fw_ptr_1_8, fw_ptr_2_5, fw_ptr_2_6, fw_ptr_2_7, fw_ptr_2_8, fw_ptr_2_9, fw_ptr_8_2, fw_ptr_8_3, fw_ptr_11_2, fw_ptr_11_3, fw_ptr_11_4, fw_ptr_11_5, fw_ptr_11_6, fw_ptr_17_8, fw_ptr_18_2, fw_ptr_18_3, fw_ptr_25_1, fw_ptr_27_2, fw_ptr_28_1, fw_ptr_32_0, fw_ptr_32_1, fw_ptr_32_3, fw_ptr_32_7, fw_ptr_32_8, fw_ptr_32_9, fw_ptr_32_10, fw_ptr_32_15, fw_ptr_32_16, fw_ptr_32_17, fw_ptr_32_18, fw_ptr_32_19, fw_ptr_32_25, fw_ptr_32_29, fw_ptr_3, fw_ptr_4, fw_ptr_5, fw_ptr_6, fw_ptr_7, fw_ptr_9, fw_ptr_10, fw_ptr_13, fw_ptr_15, fw_ptr_16, fw_ptr_19, fw_ptr_20, fw_ptr_21, fw_ptr_22, fw_ptr_23, fw_ptr_24, fw_ptr_26, fw_ptr_29, fw_ptr_30, fw_ptr_31, fw_ptr_33, fw_ptr_34, fw_ptr_35, fw_ptr_36, fw_ptr_37, fw_ptr_38, fw_ptr_39, fw_ptr_40, fw_ptr_41, fw_ptr_42, fw_ptr_43, fw_ptr_44, fw_ptr_45, fw_ptr_46, fw_ptr_47, fw_ptr_48, fw_ptr_49, fw_ptr_50, fw_ptr_51, fw_ptr_52, fw_ptr_53, fw_ptr_54, fw_ptr_55, fw_ptr_12, fw_ptr_x, fw_ptr_hi, fw_ptr_b3, fw_ptr_b1, fw_ptr_b2, fw_ptr_b2_]; assumption)) only [fw_b_190_0, fw_b_190_17, fw_b_190_13, fw_b_190_8, fw_b_190_10, fw_h190_0, fw_h190_1, fw_b_76_0, fw_b_76_4, fw_b_76_7, fw_b_76_12, fw_b_76_26, fw_b_76_39, fw_b_76_47, fw_b_76_56, fw_b_76_18, fw_c9_76, r1, r5, ↓if_pos, ↓if_neg, if_neg, if_pos, fw_bs, fw_cn_0, fw_cn_1, fw_cn_2, fw_cn_3, fw_cn_4, fw_cn_5, Nat.reduceAdd, fw_w_id, fw_wl_id, fw_r_k, fw_r_j, fw_r_s, fw_r_x, if_true, if_false]
        · generalize fg_car σ (fw_r σ 32 10) r w = c at *
          generalize fw_r σ 32 10 = P at *
          have e10b : fw_r (fw_u (fw_u c 54 0 P) 32 0 0) 32 10 = P := by rw [fw_r_j _ (by decide), e10]
          unfold fg_mar
          simp (disch := first | assumption | first | omega | assumption | (simp (disch := omega) only [fw_w_id, fw_wl_id, fw_r_k, fw_r_j, fw_r_s]; omega) | (simp only [fw_ptr_1_8, fw_ptr_2_5, fw_ptr_2_6, fw_ptr_2_7, fw_ptr_2_8, fw_ptr_2_9, fw_ptr_8_2, fw_ptr_8_3, fw_ptr_11_2, fw_ptr_11_3, fw_ptr_11_4, fw_ptr_11_5, fw_ptr_11_6, fw_ptr_17_8, fw_ptr_18_2, fw_ptr_18_3, fw_ptr_25_1, fw_ptr_27_2, fw_ptr_28_1, fw_ptr_32_0, fw_ptr_32_1, fw_ptr_32_3, fw_ptr_32_7, fw_ptr_32_8, fw_ptr_32_9, fw_ptr_32_10, fw_ptr_32_15, fw_ptr_32_16, fw_ptr_32_17, fw_ptr_32_18, fw_ptr_32_19, fw_ptr_32_25, fw_ptr_32_29, fw_ptr_3, fw_ptr_4, fw_ptr_5, fw_ptr_6, fw_ptr_7, fw_ptr_9, fw_ptr_10, fw_ptr_13, fw_ptr_15, fw_ptr_16, fw_ptr_19, fw_ptr_20, fw_ptr_21, fw_ptr_22, fw_ptr_23, fw_ptr_24, fw_ptr_26, fw_ptr_29, fw_ptr_30, fw_ptr_31, fw_ptr_33, fw_ptr_34, fw_ptr_35, fw_ptr_36, fw_ptr_37, fw_ptr_38, fw_ptr_39, fw_ptr_40, fw_ptr_41, fw_ptr_42, fw_ptr_43, fw_ptr_44, fw_ptr_45, fw_ptr_46, fw_ptr_47, fw_ptr_48, fw_ptr_49, fw_ptr_50, fw_ptr_51, fw_ptr_52, fw_ptr_53, fw_ptr_54, fw_ptr_55, fw_ptr_12, fw_ptr_x, fw_ptr_hi, fw_ptr_b3, fw_ptr_b1, fw_ptr_b2, fw_ptr_b2_]; assumption)) only [fw_b_149_0, fw_b_149_7, fw_b_149_10, fw_b_149_17, fw_b_149_24, fw_b_149_38, fw_b_149_45, m1, m2, m4, e10, ↓if_pos, ↓if_neg, fw_bs, fw_cn_0, Nat.reduceAdd]
          have hp5 : fw_ptr (fw_u (fw_u (fw_u c 54 0 P) 32 0 0) 37 P r) := by rw [fw_ptr_37]; exact hp4
          rw [fw_b_149_50 _ _ _ _ hp4 (by rw [e10b]; omega) (by rw [e10b]; omega), e10b, fw_b_149_60 _ _ _ _ hp5 (by rw [fw_r_k _ (by decide), e10b]; omega) (by rw [fw_r_k _ (by decide), e10b]; omega), fw_r_k _ (by decide), e10b, fw_b_149_70, fw_r_k _ (by decide), fw_r_k _ (by decide), e10b, fw_w_id (by omega) (by omega), fw_b_149_80, fw_r_s, fw_w_id (by omega) (by omega)]
          congr 3; omega
        · unfold fg_mar; (try simp (disch := omega) only [fw_r_n, fw_r_s])
        · unfold fg_mar; (try simp (disch := omega) only [fw_r_n, fw_r_s])
        · unfold fg_mar; rw [fw_r_n _ (by omega), fw_r_n _ (by omega), fw_r_n _ (by omega), fw_r_n _ (by omega), fw_r_n _ (by omega), hc _ _ (by omega)]
        · unfold fg_mar; rw [fw_r_n _ (by omega), fw_r_n _ (by omega), fw_r_n _ (by omega), fw_r_n _ (by omega), fw_r_n _ (by omega), hc _ _ (by omega)]
        · unfold fg_mar; rw [fw_r_n _ (by omega), fw_r_n _ (by omega), fw_r_n _ (by omega), fw_r_n _ (by omega), fw_r_n _ (by omega), hc _ _ (by omega)]
        · unfold fg_mar; rw [fw_r_n _ (by omega), fw_r_n _ (by omega), fw_r_n _ (by omega), fw_r_n _ (by omega), fw_r_n _ (by omega), hc _ _ (by omega)]
        · unfold fg_mar; rw [fw_r_n _ (by omega), fw_r_n _ (by omega), fw_r_n _ (by omega), fw_r_n _ (by omega), fw_r_n _ (by omega), hc _ _ (by omega)]
    · have m2 := fs_isIn_f (m := fw_ex σ) (v := w) (lo := 1) (hi := 9) c2
      refine fg_OK_err (k := 1) (b := 0) h (by decide) ?_ ?_
      · by_cases c4 : w < 1
        · simp (disch := first | assumption | first | omega | assumption | (simp (disch := omega) only [fw_w_id, fw_wl_id, fw_r_k, fw_r_j, fw_r_s]; omega) | (simp only [fw_ptr_1_8, fw_ptr_2_5, fw_ptr_2_6, fw_ptr_2_7, fw_ptr_2_8, fw_ptr_2_9, fw_ptr_8_2, fw_ptr_8_3, fw_ptr_11_2, fw_ptr_11_3, fw_ptr_11_4, fw_ptr_11_5, fw_ptr_11_6, fw_ptr_17_8, fw_ptr_18_2, fw_ptr_18_3, fw_ptr_25_1, fw_ptr_27_2, fw_ptr_28_1, fw_ptr_32_0, fw_ptr_32_1, fw_ptr_32_3, fw_ptr_32_7, fw_ptr_32_8, fw_ptr_32_9, fw_ptr_32_10, fw_ptr_32_15, fw_ptr_32_16, fw_ptr_32_17, fw_ptr_32_18, fw_ptr_32_19, fw_ptr_32_25, fw_ptr_32_29, fw_ptr_3, fw_ptr_4, fw_ptr_5, fw_ptr_6, fw_ptr_7, fw_ptr_9, fw_ptr_10, fw_ptr_13, fw_ptr_15, fw_ptr_16, fw_ptr_19, fw_ptr_20, fw_ptr_21, fw_ptr_22, fw_ptr_23, fw_ptr_24, fw_ptr_26, fw_ptr_29, fw_ptr_30, fw_ptr_31, fw_ptr_33, fw_ptr_34, fw_ptr_35, fw_ptr_36, fw_ptr_37, fw_ptr_38, fw_ptr_39, fw_ptr_40, fw_ptr_41, fw_ptr_42, fw_ptr_43, fw_ptr_44, fw_ptr_45, fw_ptr_46, fw_ptr_47, fw_ptr_48, fw_ptr_49, fw_ptr_50, fw_ptr_51, fw_ptr_52, fw_ptr_53, fw_ptr_54, fw_ptr_55, fw_ptr_12, fw_ptr_x, fw_ptr_hi, fw_ptr_b3, fw_ptr_b1, fw_ptr_b2, fw_ptr_b2_]; assumption)) only [fw_b_190_0, fw_b_190_17, fw_b_190_13, fw_b_190_8, fw_b_190_10, fw_h190_0, fw_h190_1, fw_b_76_0, fw_b_76_4, fw_b_76_7, fw_b_76_12, fw_b_76_26, fw_b_76_39, fw_b_76_47, fw_b_76_56, fw_b_76_18, fw_c9_76, r1, ↓if_pos, ↓if_neg, if_neg, if_pos, fw_bs, fw_cn_0, fw_cn_1, fw_cn_2, fw_cn_3, fw_cn_4, fw_cn_5, Nat.reduceAdd, fw_w_id, fw_wl_id, fw_r_k, fw_r_j, fw_r_s, fw_r_x, if_true, if_false]
        · simp (disch := first | assumption | first | omega | assumption | (simp (disch := omega) only [fw_w_id, fw_wl_id, fw_r_k, fw_r_j, fw_r_s]; omega) | (simp only [fw_ptr_1_8, fw_ptr_2_5, fw_ptr_2_6, fw_ptr_2_7, fw_ptr_2_8, fw_ptr_2_9, fw_ptr_8_2, fw_ptr_8_3, fw_ptr_11_2, fw_ptr_11_3, fw_ptr_11_4, fw_ptr_11_5, fw_ptr_11_6, fw_ptr_17_8, fw_ptr_18_2, fw_ptr_18_3, fw_ptr_25_1, fw_ptr_27_2, fw_ptr_28_1, fw_ptr_32_0, fw_ptr_32_1, fw_ptr_32_3, fw_ptr_32_7, fw_ptr_32_8, fw_ptr_32_9, fw_ptr_32_10, fw_ptr_32_15, fw_ptr_32_16, fw_ptr_32_17, fw_ptr_32_18, fw_ptr_32_19, fw_ptr_32_25, fw_ptr_32_29, fw_ptr_3, fw_ptr_4, fw_ptr_5, fw_ptr_6, fw_ptr_7, fw_ptr_9, fw_ptr_10, fw_ptr_13, fw_ptr_15, fw_ptr_16, fw_ptr_19, fw_ptr_20, fw_ptr_21, fw_ptr_22, fw_ptr_23, fw_ptr_24, fw_ptr_26, fw_ptr_29, fw_ptr_30, fw_ptr_31, fw_ptr_33, fw_ptr_34, fw_ptr_35, fw_ptr_36, fw_ptr_37, fw_ptr_38, fw_ptr_39, fw_ptr_40, fw_ptr_41, fw_ptr_42, fw_ptr_43, fw_ptr_44, fw_ptr_45, fw_ptr_46, fw_ptr_47, fw_ptr_48, fw_ptr_49, fw_ptr_50, fw_ptr_51, fw_ptr_52, fw_ptr_53, fw_ptr_54, fw_ptr_55, fw_ptr_12, fw_ptr_x, fw_ptr_hi, fw_ptr_b3, fw_ptr_b1, fw_ptr_b2, fw_ptr_b2_]; assumption)) only [fw_b_190_0, fw_b_190_17, fw_b_190_13, fw_b_190_8, fw_b_190_10, fw_h190_0, fw_h190_1, fw_b_76_0, fw_b_76_4, fw_b_76_7, fw_b_76_12, fw_b_76_26, fw_b_76_39, fw_b_76_47, fw_b_76_56, fw_b_76_18, fw_c9_76, r1, ↓if_pos, ↓if_neg, if_neg, if_pos, fw_bs, fw_cn_0, fw_cn_1, fw_cn_2, fw_cn_3, fw_cn_4, fw_cn_5, Nat.reduceAdd, fw_w_id, fw_wl_id, fw_r_k, fw_r_j, fw_r_s, fw_r_x, if_true, if_false]
      · simp (disch := first | assumption | first | omega | assumption | (simp (disch := omega) only [fw_w_id, fw_wl_id, fw_r_k, fw_r_j, fw_r_s]; omega) | (simp only [fw_ptr_1_8, fw_ptr_2_5, fw_ptr_2_6, fw_ptr_2_7, fw_ptr_2_8, fw_ptr_2_9, fw_ptr_8_2, fw_ptr_8_3, fw_ptr_11_2, fw_ptr_11_3, fw_ptr_11_4, fw_ptr_11_5, fw_ptr_11_6, fw_ptr_17_8, fw_ptr_18_2, fw_ptr_18_3, fw_ptr_25_1, fw_ptr_27_2, fw_ptr_28_1, fw_ptr_32_0, fw_ptr_32_1, fw_ptr_32_3, fw_ptr_32_7, fw_ptr_32_8, fw_ptr_32_9, fw_ptr_32_10, fw_ptr_32_15, fw_ptr_32_16, fw_ptr_32_17, fw_ptr_32_18, fw_ptr_32_19, fw_ptr_32_25, fw_ptr_32_29, fw_ptr_3, fw_ptr_4, fw_ptr_5, fw_ptr_6, fw_ptr_7, fw_ptr_9, fw_ptr_10, fw_ptr_13, fw_ptr_15, fw_ptr_16, fw_ptr_19, fw_ptr_20, fw_ptr_21, fw_ptr_22, fw_ptr_23, fw_ptr_24, fw_ptr_26, fw_ptr_29, fw_ptr_30, fw_ptr_31, fw_ptr_33, fw_ptr_34, fw_ptr_35, fw_ptr_36, fw_ptr_37, fw_ptr_38, fw_ptr_39, fw_ptr_40, fw_ptr_41, fw_ptr_42, fw_ptr_43, fw_ptr_44, fw_ptr_45, fw_ptr_46, fw_ptr_47, fw_ptr_48, fw_ptr_49, fw_ptr_50, fw_ptr_51, fw_ptr_52, fw_ptr_53, fw_ptr_54, fw_ptr_55, fw_ptr_12, fw_ptr_x, fw_ptr_hi, fw_ptr_b3, fw_ptr_b1, fw_ptr_b2, fw_ptr_b2_]; assumption)) only [fw_b_149_0, fw_b_149_7, fw_b_149_10, fw_b_149_17, fw_b_149_24, fw_b_149_38, fw_b_149_45, fw_b_149_50, fw_b_149_60, fw_b_149_70, fw_b_149_80, fw_b_149_48, fw_b_149_34, fw_b_149_20, m1, m2, g1, ↓if_pos, ↓if_neg, if_neg, if_pos, fw_bs, fw_cn_0, fw_cn_1, fw_cn_2, fw_cn_3, fw_cn_4, fw_cn_5, Nat.reduceAdd, fw_w_id, fw_wl_id, fw_r_k, fw_r_j, fw_r_s, fw_r_x, if_true, if_false]
  · have r1 := fs_isRoute_f (σ := σ) c1
    have m1 := fs_isIn_f (m := fw_ex σ) (v := r) (lo := 0) (hi := 7) (by omega)
    refine fg_OK_err (k := 1) (b := 0) h (by decide) ?_ ?_
    · simp (disch := first | assumption | first | omega | assumption | (simp (disch := omega) only [fw_w_id, fw_wl_id, fw_r_k, fw_r_j, fw_r_s]; omega) | (simp only [fw_ptr_1_8, fw_ptr_2_5, fw_ptr_2_6, fw_ptr_2_7, fw_ptr_2_8, fw_ptr_2_9, fw_ptr_8_2, fw_ptr_8_3, fw_ptr_11_2, fw_ptr_11_3, fw_ptr_11_4, fw_ptr_11_5, fw_ptr_11_6, fw_ptr_17_8, fw_ptr_18_2, fw_ptr_18_3, fw_ptr_25_1, fw_ptr_27_2, fw_ptr_28_1, fw_ptr_32_0, fw_ptr_32_1, fw_ptr_32_3, fw_ptr_32_7, fw_ptr_32_8, fw_ptr_32_9, fw_ptr_32_10, fw_ptr_32_15, fw_ptr_32_16, fw_ptr_32_17, fw_ptr_32_18, fw_ptr_32_19, fw_ptr_32_25, fw_ptr_32_29, fw_ptr_3, fw_ptr_4, fw_ptr_5, fw_ptr_6, fw_ptr_7, fw_ptr_9, fw_ptr_10, fw_ptr_13, fw_ptr_15, fw_ptr_16, fw_ptr_19, fw_ptr_20, fw_ptr_21, fw_ptr_22, fw_ptr_23, fw_ptr_24, fw_ptr_26, fw_ptr_29, fw_ptr_30, fw_ptr_31, fw_ptr_33, fw_ptr_34, fw_ptr_35, fw_ptr_36, fw_ptr_37, fw_ptr_38, fw_ptr_39, fw_ptr_40, fw_ptr_41, fw_ptr_42, fw_ptr_43, fw_ptr_44, fw_ptr_45, fw_ptr_46, fw_ptr_47, fw_ptr_48, fw_ptr_49, fw_ptr_50, fw_ptr_51, fw_ptr_52, fw_ptr_53, fw_ptr_54, fw_ptr_55, fw_ptr_12, fw_ptr_x, fw_ptr_hi, fw_ptr_b3, fw_ptr_b1, fw_ptr_b2, fw_ptr_b2_]; assumption)) only [fw_b_190_0, fw_b_190_17, fw_b_190_13, fw_b_190_8, fw_b_190_10, fw_h190_0, fw_h190_1, fw_b_76_0, fw_b_76_4, fw_b_76_7, fw_b_76_12, fw_b_76_26, fw_b_76_39, fw_b_76_47, fw_b_76_56, fw_b_76_18, fw_c9_76, r1, ↓if_pos, ↓if_neg, if_neg, if_pos, fw_bs, fw_cn_0, fw_cn_1, fw_cn_2, fw_cn_3, fw_cn_4, fw_cn_5, Nat.reduceAdd, fw_w_id, fw_wl_id, fw_r_k, fw_r_j, fw_r_s, fw_r_x, if_true, if_false]
    · simp (disch := first | assumption | first | omega | assumption | (simp (disch := omega) only [fw_w_id, fw_wl_id, fw_r_k, fw_r_j, fw_r_s]; omega) | (simp only [fw_ptr_1_8, fw_ptr_2_5, fw_ptr_2_6, fw_ptr_2_7, fw_ptr_2_8, fw_ptr_2_9, fw_ptr_8_2, fw_ptr_8_3, fw_ptr_11_2, fw_ptr_11_3, fw_ptr_11_4, fw_ptr_11_5, fw_ptr_11_6, fw_ptr_17_8, fw_ptr_18_2, fw_ptr_18_3, fw_ptr_25_1, fw_ptr_27_2, fw_ptr_28_1, fw_ptr_32_0, fw_ptr_32_1, fw_ptr_32_3, fw_ptr_32_7, fw_ptr_32_8, fw_ptr_32_9, fw_ptr_32_10, fw_ptr_32_15, fw_ptr_32_16, fw_ptr_32_17, fw_ptr_32_18, fw_ptr_32_19, fw_ptr_32_25, fw_ptr_32_29, fw_ptr_3, fw_ptr_4, fw_ptr_5, fw_ptr_6, fw_ptr_7, fw_ptr_9, fw_ptr_10, fw_ptr_13, fw_ptr_15, fw_ptr_16, fw_ptr_19, fw_ptr_20, fw_ptr_21, fw_ptr_22, fw_ptr_23, fw_ptr_24, fw_ptr_26, fw_ptr_29, fw_ptr_30, fw_ptr_31, fw_ptr_33, fw_ptr_34, fw_ptr_35, fw_ptr_36, fw_ptr_37, fw_ptr_38, fw_ptr_39, fw_ptr_40, fw_ptr_41, fw_ptr_42, fw_ptr_43, fw_ptr_44, fw_ptr_45, fw_ptr_46, fw_ptr_47, fw_ptr_48, fw_ptr_49, fw_ptr_50, fw_ptr_51, fw_ptr_52, fw_ptr_53, fw_ptr_54, fw_ptr_55, fw_ptr_12, fw_ptr_x, fw_ptr_hi, fw_ptr_b3, fw_ptr_b1, fw_ptr_b2, fw_ptr_b2_]; assumption)) only [fw_b_149_0, fw_b_149_7, fw_b_149_10, fw_b_149_17, fw_b_149_24, fw_b_149_38, fw_b_149_45, fw_b_149_50, fw_b_149_60, fw_b_149_70, fw_b_149_80, fw_b_149_48, fw_b_149_34, fw_b_149_20, m1, g1, ↓if_pos, ↓if_neg, if_neg, if_pos, fw_bs, fw_cn_0, fw_cn_1, fw_cn_2, fw_cn_3, fw_cn_4, fw_cn_5, Nat.reduceAdd, fw_w_id, fw_wl_id, fw_r_k, fw_r_j, fw_r_s, fw_r_x, if_true, if_false]
