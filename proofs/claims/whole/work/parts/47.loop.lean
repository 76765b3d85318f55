/-! setLoop -/
def fg_mt (σ : fw_M) (b lo hi : Int) : fw_M := fun a j => if a = b + 1 ∧ lo ≤ j ∧ j < hi then -1 else if a = b + 2 ∧ lo ≤ j ∧ j < hi then 0 else fw_r σ a j
theorem fg_mt_r (σ : fw_M) (b lo hi a j : Int) : fw_r (fg_mt σ b lo hi) a j = if a = b + 1 ∧ lo ≤ j ∧ j < hi then -1 else if a = b + 2 ∧ lo ≤ j ∧ j < hi then 0 else fw_r σ a j := rfl
theorem fg_mt_o (σ : fw_M) (b lo hi : Int) {a j : Int} (h1 : a ≠ b + 1) (h2 : a ≠ b + 2) : fw_r (fg_mt σ b lo hi) a j = fw_r σ a j := by
  show (if a = b + 1 ∧ lo ≤ j ∧ j < hi then -1 else if a = b + 2 ∧ lo ≤ j ∧ j < hi then 0 else fw_r σ a j) = _
  rw [if_neg (fun h => h1 h.1), if_neg (fun h => h2 h.1)]
theorem fg_mt_1 (σ : fw_M) {b lo hi j : Int} (h : lo ≤ j) (h2 : j < hi) : fw_r (fg_mt σ b lo hi) (b + 1) j = -1 := by
  show (if b + 1 = b + 1 ∧ lo ≤ j ∧ j < hi then -1 else if b + 1 = b + 2 ∧ lo ≤ j ∧ j < hi then 0 else fw_r σ (b + 1) j) = _
  rw [if_pos ⟨rfl, h, h2⟩]
theorem fg_mt_2 (σ : fw_M) {b lo hi j : Int} (h : lo ≤ j) (h2 : j < hi) : fw_r (fg_mt σ b lo hi) (b + 2) j = 0 := by
  show (if b + 2 = b + 1 ∧ lo ≤ j ∧ j < hi then -1 else if b + 2 = b + 2 ∧ lo ≤ j ∧ j < hi then 0 else fw_r σ (b + 2) j) = _
  rw [if_neg (by omega), if_pos ⟨rfl, h, h2⟩]
theorem fg_mt_ptr (σ : fw_M) (lo hi : Int) : fw_ptr (fg_mt σ 8 lo hi) = fw_ptr σ := by
  have hd : ∀ q ∈ fw_psT, q.1 ≠ 8 + 1 ∧ q.1 ≠ 8 + 2 := by decide
  apply propext
  constructor
  · intro hp q hq
    have h1 := hp q hq
    rwa [fg_mt_o _ _ _ _ (hd q hq).1 (hd q hq).2] at h1
  · intro hp q hq
    rw [fg_mt_o _ _ _ _ (hd q hq).1 (hd q hq).2]
    exact hp q hq
theorem fs_me_lp {b x1 : Int} (hb : b = 8 ∨ b = 18) : ∀ (k : Nat) (i : Int) (σ : fw_M), fw_r σ b 0 = b + 1 → fw_r σ b 1 = b + 2 → 0 ≤ i → i + k = 20 → fw_E 2 21 [(2, b), (0, x1), (0, i)] [] σ = some ((5, 0), fg_mt σ b i 20) := by
  intro k
  induction k with
  | zero =>
    intro i σ e0 e1 h0 h1
    rw [fw_b_2_21, if_neg (by omega), fw_b_2_47]
    congr 2
    funext a j
    unfold fg_mt fw_r
    rw [if_neg (by omega), if_neg (by omega)]
  | succ k ih =>
    intro i σ e0 e1 h0 h1
    have r1 := ih (i + 1) (fw_u (fw_u σ (b + 1) i (-1)) (b + 2) i 0) (by rw [fw_r_k _ (by omega), fw_r_k _ (by omega)]; exact e0) (by rw [fw_r_k _ (by omega), fw_r_k _ (by omega)]; exact e1) (by omega) (by omega)
    have e2 : fw_r (fw_u σ (b + 1) i (-1)) b 1 = b + 2 := by rw [fw_r_k _ (by omega)]; exact e1
    rw [fw_b_2_21, if_pos (by omega), fw_b_2_27 _ _ _ _ (fw_kd_b hb) (by rw [e0]; exact fw_kd_b1 hb) (by omega) (by rw [e0, fw_ln_b1 hb]; omega), e0, fw_b_2_34 _ _ _ _ (fw_kd_b hb) (by rw [e2]; exact fw_kd_b2 hb) (by omega) (by rw [e2, fw_ln_b2 hb]; omega), e2, fw_b_2_41, fw_w_id (by omega) (by omega), r1]
    congr 2
    funext a j
    show fw_r (fg_mt (fw_u (fw_u σ (b + 1) i (-1)) (b + 2) i 0) b (i + 1) 20) a j = fw_r (fg_mt σ b i 20) a j
    rw [fg_mt_r, fg_mt_r, fw_r_u, fw_r_u]
    repeat' split
    all_goals first | rfl | omega
theorem fs_me {b N : Int} {a2 : fw_V} {σ : fw_M} (hb : b = 8 ∨ b = 18) (e0 : fw_r σ b 0 = b + 1) (e1 : fw_r σ b 1 = b + 2) (hN : 4 ≤ N ∧ N ≤ 20) : fw_E 2 0 [(2, b), (0, N), a2] [] σ = some ((5, 0), fg_mt (fw_u (fw_u σ b 2 N) b 3 0) b 0 20) := by
  rw [fw_b_2_0 _ _ _ _ (fw_kd_b hb), if_neg (by omega : ¬20 < N), if_pos (by omega : 1 < N), fw_b_2_14 _ _ _ _ (fw_kd_b hb), fw_b_2_19]
  exact fs_me_lp hb 20 0 _ (by rw [fw_r_j _ (by decide), fw_r_j _ (by decide)]; exact e0) (by rw [fw_r_j _ (by decide), fw_r_j _ (by decide)]; exact e1) (by omega) (by omega)
def fg_cmt (σ : fw_M) (N : Int) : fw_M := fw_u (fg_mt (fw_u (fw_u σ 8 2 N) 8 3 0) 8 0 20) 11 3 (N - 1)
theorem fg_IN_loop {M N : Int} {σ : fw_M} (h : fg_IN M σ σ) (h3 : fw_r σ 32 3 = 0) (h10 : fw_r σ 32 10 = 0) (hN : 4 ≤ N ∧ N ≤ 20) (hM : 0 ≤ M) : fg_IN M (fg_cmt σ N) (fw_u σ 32 1 N) ∧ fw_ptr (fg_cmt σ N) := by
  obtain ⟨gA, gB, gC, gD, gE, gF, gG, gH, gI⟩ := h
  obtain ⟨⟨a1, a2, a3⟩, ⟨b0, b1, b2, b3, b4, b5⟩, ⟨f1, f2, f3, f4⟩, e2, e3, e4, e5⟩ := gA.1
  have hF := gB.2.1.2.1
  have hp1 : fw_ptr (fg_cmt σ N) := by unfold fg_cmt; rw [fw_ptr_11_3, fg_mt_ptr, fw_ptr_8_3, fw_ptr_8_2]; exact a1
  have hp2 : fw_ptr (fw_u σ 32 1 N) := by rw [fw_ptr_32_1]; exact a1
  have t33 : ∀ p, 0 ≤ p → p < 20 → fw_r σ 33 p = -1 := fun p x y => by
    by_cases z : p < fw_r σ 32 1
    · have := gB.2.1.2.2.1 p x z; omega
    · exact gB.2.2 p (by omega) y
  have oc : ∀ a j, a ≠ 8 → a ≠ 9 → a ≠ 10 → (a ≠ 11 ∨ j ≠ 3) → fw_r (fg_cmt σ N) a j = fw_r σ a j := fun a j x y z w => by
    unfold fg_cmt
    rw [fw_r_n _ (by omega), fg_mt_o _ _ _ _ (by omega) (by omega), fw_r_k _ x, fw_r_k _ x]
  have oc' : ∀ a j, a ≠ 8 → a ≠ 9 → a ≠ 10 → a ≠ 11 → fw_r (fg_cmt σ N) a j = fw_r σ a j := fun a j x y z w => oc a j x y z (Or.inl w)
  have c82 : fw_r (fg_cmt σ N) 8 2 = N := by unfold fg_cmt; rw [fw_r_k _ (by decide), fg_mt_o _ _ _ _ (by decide) (by decide), fw_r_j _ (by decide), fw_r_s]
  have c83 : fw_r (fg_cmt σ N) 8 3 = 0 := by unfold fg_cmt; rw [fw_r_k _ (by decide), fg_mt_o _ _ _ _ (by decide) (by decide), fw_r_s]
  have c9 : ∀ j, 0 ≤ j → j < 20 → fw_r (fg_cmt σ N) (8 + 1) j = -1 := fun j x y => by unfold fg_cmt; rw [fw_r_k _ (by decide), fg_mt_1 _ x y]
  have c10 : ∀ j, 0 ≤ j → j < 20 → fw_r (fg_cmt σ N) (8 + 2) j = 0 := fun j x y => by unfold fg_cmt; rw [fw_r_k _ (by decide), fg_mt_2 _ x y]
  have c113 : fw_r (fg_cmt σ N) 11 3 = N - 1 := by unfold fg_cmt; rw [fw_r_s]
  have om : ∀ a j, (a ≠ 32 ∨ j ≠ 1) → fw_r (fw_u σ 32 1 N) a j = fw_r σ a j := fun a j x => fw_r_n _ (by omega)
  have m1 : fw_r (fw_u σ 32 1 N) 32 1 = N := fw_r_s _ _ _ _
  generalize fg_cmt σ N = c at *
  generalize fw_u σ 32 1 N = m at *
  have om' : ∀ a, a ≠ 32 → ∀ j, fw_r m a j = fw_r σ a j := fun a x j => om a j (Or.inl x)
  have om2 : ∀ j, j ≠ 1 → fw_r m 32 j = fw_r σ 32 j := fun j x => om 32 j (Or.inr x)
  have x3 := om2 3 (by decide)
  have x10 := om2 10 (by decide)
  have x15 := om2 15 (by decide)
  have o11 : ∀ j, j ≠ 3 → fw_r c 11 j = fw_r σ 11 j := fun j x => oc 11 j (by decide) (by decide) (by decide) (Or.inr x)
  have hk1 : fg_cok c := fg_cok_c a2 (o11 _ (by decide)) (fun j => oc' _ _ (by decide) (by decide) (by decide) (by decide)) (fun i hi => oc' _ _ (by omega) (by omega) (by omega) (by omega)) (fun i hi => oc' _ _ (by omega) (by omega) (by omega) (by omega))
  refine ⟨⟨?_, ?_, ?_, ?_, ?_, ?_, ?_, ?_, ?_⟩, hp1⟩
  · refine ⟨⟨⟨hp1, hk1, by rw [o11 2 (by decide), x3]; exact a3⟩, ⟨by rw [m1]; exact hN, by rw [c113, m1], by rw [o11 4 (by decide), om2 9 (by decide)]; exact b2, by rw [o11 5 (by decide), om2 7 (by decide)]; exact b3, by rw [o11 6 (by decide), om2 8 (by decide)]; exact b4, by rw [oc' 2 5 (by decide) (by decide) (by decide) (by decide), x10]; exact b5⟩, ⟨by rw [om2 7 (by decide)]; exact f1, by rw [om2 8 (by decide)]; exact f2, by rw [om2 9 (by decide)]; exact f3, by rw [x10]; exact f4⟩, fun i x y => ?_, fun i j x y z w' e => ?_, fun q x y => ?_, fun q x y => ?_⟩, hp2⟩
    · rw [x3] at y; omega
    · rw [x3] at y; omega
    · rw [x10] at y; omega
    · rw [oc' 13 _ (by decide) (by decide) (by decide) (by decide), om' 41 (by decide), x3]
      exact e5 q x y
  · have hbok : fg_bok c 8 := by unfold fg_bok; rw [c82, c83]; omega
    have hsl : ∀ p, 0 ≤ p → p < N → 0 ≤ fg_slot c 8 p ∧ fg_slot c 8 p < 20 := fun p x y => by
      have := fg_slot_in hbok x (by rw [c82]; exact y)
      rw [c82] at this; omega
    refine ⟨⟨hbok, by rw [c82, m1], fun p x y => ?_, fun j x y => ?_⟩, ⟨by rw [m1]; exact hN, by rw [x15, x10]; exact hF, fun p x y => ?_, fun p q x y z w e ne => ?_, fun p x y => ?_⟩, fun p x y => ?_⟩
    · rw [m1] at y
      have s := hsl p x y
      rw [om' 33 (by decide), t33 p x (by omega)]
      refine ⟨?_, fun hx => absurd rfl hx⟩
      unfold fg_tr; exact c9 _ s.1 s.2
    · rw [m1] at y
      rw [c10 j x (by omega)]; omega
    · rw [m1] at y
      rw [om' 33 (by decide), t33 p x (by omega), x15]; omega
    · rw [m1] at y
      rw [om' 33 (by decide) p] at ne
      exact absurd (t33 p x (by omega)) ne
    · rw [x10] at y; rw [x15] at x; omega
    · rw [m1] at x
      rw [om' 33 (by decide), t33 p (by omega) y]
  · exact fg_gC_c gC (oc' _ _ (by decide) (by decide) (by decide) (by decide)) (oc' _ _ (by decide) (by decide) (by decide) (by decide)) (fun j => oc' _ _ (by decide) (by decide) (by decide) (by decide)) (fun j => oc' _ _ (by decide) (by decide) (by decide) (by decide)) (fun j => oc' _ _ (by decide) (by decide) (by decide) (by decide)) (fun j => oc' _ _ (by decide) (by decide) (by decide) (by decide)) x10 x15 (om2 _ (by decide)) (om' _ (by decide)) (om' _ (by decide)) (om' _ (by decide)) (om' _ (by decide))
  · exact fg_gD_c gD (oc' _ _ (by decide) (by decide) (by decide) (by decide)) (oc' _ _ (by decide) (by decide) (by decide) (by decide)) (oc' _ _ (by decide) (by decide) (by decide) (by decide)) (oc' _ _ (by decide) (by decide) (by decide) (by decide)) (oc' _ _ (by decide) (by decide) (by decide) (by decide)) x15 (om2 _ (by decide)) (om2 _ (by decide)) (om2 _ (by decide)) (om2 _ (by decide)) (om' _ (by decide))
  · exact fg_gE_c gE (fun i hi => ⟨oc' _ _ (by omega) (by omega) (by omega) (by omega), oc' _ _ (by omega) (by omega) (by omega) (by omega), oc' _ _ (by omega) (by omega) (by omega) (by omega), fun k => oc' _ _ (by omega) (by omega) (by omega) (by omega)⟩) x3 x15 (om' _ (by decide)) (om' _ (by decide)) (om' _ (by decide)) (om' _ (by decide)) (om' _ (by decide)) (om' _ (by decide)) (om' _ (by decide))
  · intro p x y ne
    rw [m1] at y
    rw [om' 33 (by decide) p] at ne
    exact absurd (t33 p x (by omega)) ne
  · exact fg_gG_c gG (fun j => oc' _ _ (by decide) (by decide) (by decide) (by decide)) x15 (om2 _ (by decide)) (om' _ (by decide))
  · exact fg_gH_c gH (oc' _ _ (by decide) (by decide) (by decide) (by decide)) (oc' _ _ (by decide) (by decide) (by decide) (by decide)) (fun j => oc' _ _ (by decide) (by decide) (by decide) (by decide)) (fun j => oc' _ _ (by decide) (by decide) (by decide) (by decide)) x15 (om2 _ (by decide)) (om' _ (by decide)) (om' _ (by decide)) (om' _ (by decide)) (om' _ (by decide))
  · intro q hq
    have g := gI q hq
    rw [fg_cnt_0 (f := fw_r σ 33) (fun j x y e => by rw [t33 j x (by omega)] at e; omega)] at g
    rw [fg_chs_c x3 (om' _ (by decide)) (om' _ (by decide)) q, fg_cnt_0 (f := fw_r m 33) (fun j x y e => by rw [m1] at y; rw [om' 33 (by decide), t33 j x (by omega)] at e; omega), fg_cnt_c (fun j => oc' 29 j (by decide) (by decide) (by decide) (by decide)), fg_cnt_c (fun j => oc' 26 j (by decide) (by decide) (by decide) (by decide)), oc' 28 1 (by decide) (by decide) (by decide) (by decide), x15, om2 19 (by decide), x10]
    exact g
theorem op_setLoop {t N : Int} {σ : fw_M} (h : fg_INV t σ) : fg_OK t (fun σ => fw_E 183 0 [(2, 1), (0, N), (2, 54), (8, 0)] [] σ) (fun σ => fw_E 129 0 [(2, 32), (0, N), (8, 0)] [] σ) σ := by
  obtain ⟨⟨hp, hk, hpk⟩, ⟨h3, h30, h36⟩, hN, h82, h113, h25, hP⟩ := fg_facts h
  have hIN := fg_IN_M h.1 (by omega : 200 * t ≤ 200 * (t + 1))
  have ht := h.2.1
  have g1 := fs_goesOn_n (m := fw_ex σ) (v := 1) (by decide)
  have g2 := fs_goesOn_n (m := fw_ex σ) (v := 2) (by decide)
  by_cases c1 : 4 ≤ N ∧ N ≤ 20
  · have e1 := fs_isIn_t (m := fw_ex σ) c1
    by_cases c2 : 0 < fw_r σ 32 3
    · refine fg_OK_err (k := 2) (b := 0) h (by decide) ?_ ?_
      · simp (disch := first | assumption | first | omega | assumption | (simp (disch := omega) only [fw_w_id, fw_wl_id, fw_r_k, fw_r_j, fw_r_s]; omega) | (simp only [fw_ptr_1_8, fw_ptr_2_5, fw_ptr_2_6, fw_ptr_2_7, fw_ptr_2_8, fw_ptr_2_9, fw_ptr_8_2, fw_ptr_8_3, fw_ptr_11_2, fw_ptr_11_3, fw_ptr_11_4, fw_ptr_11_5, fw_ptr_11_6, fw_ptr_17_8, fw_ptr_18_2, fw_ptr_18_3, fw_ptr_25_1, fw_ptr_27_2, fw_ptr_28_1, fw_ptr_32_0, fw_ptr_32_1, fw_ptr_32_3, fw_ptr_32_7, fw_ptr_32_8, fw_ptr_32_9, fw_ptr_32_10, fw_ptr_32_15, fw_ptr_32_16, fw_ptr_32_17, fw_ptr_32_18, fw_ptr_32_19, fw_ptr_32_25, fw_ptr_32_29, fw_ptr_3, fw_ptr_4, fw_ptr_5, fw_ptr_6, fw_ptr_7, fw_ptr_9, fw_ptr_10, fw_ptr_13, fw_ptr_15, fw_ptr_16, fw_ptr_19, fw_ptr_20, fw_ptr_21, fw_ptr_22, fw_ptr_23, fw_ptr_24, fw_ptr_26, fw_ptr_29, fw_ptr_30, fw_ptr_31, fw_ptr_33, fw_ptr_34, fw_ptr_35, fw_ptr_36, fw_ptr_37, fw_ptr_38, fw_ptr_39, fw_ptr_40, fw_ptr_41, fw_ptr_42, fw_ptr_43, fw_ptr_44, fw_ptr_45, fw_ptr_46, fw_ptr_47, fw_ptr_48, fw_ptr_49, fw_ptr_50, fw_ptr_51, fw_ptr_52, fw_ptr_53, fw_ptr_54, fw_ptr_55, fw_ptr_12, fw_ptr_x, fw_ptr_hi, fw_ptr_b3, fw_ptr_b1, fw_ptr_b2, fw_ptr_b2_]; assumption)) only [fw_b_183_0, fw_b_183_15, fw_b_183_12, fw_b_183_7, fw_b_183_9, fw_h183_0, fw_h183_1, fw_b_69_0, fw_b_69_5, fw_b_69_19, fw_b_69_29, fw_b_69_47, fw_b_69_63, fw_b_69_73, fw_b_69_39, fw_b_69_11, fw_c9_69, ↓if_pos, ↓if_neg, if_neg, if_pos, fw_bs, fw_cn_0, fw_cn_1, fw_cn_2, fw_cn_3, fw_cn_4, fw_cn_5, Nat.reduceAdd, fw_w_id, fw_wl_id, fw_r_k, fw_r_j, fw_r_s, fw_r_x, if_true, if_false]
      · simp (disch := first | assumption | first | omega | assumption | (simp (disch := omega) only [fw_w_id, fw_wl_id, fw_r_k, fw_r_j, fw_r_s]; omega) | (simp only [fw_ptr_1_8, fw_ptr_2_5, fw_ptr_2_6, fw_ptr_2_7, fw_ptr_2_8, fw_ptr_2_9, fw_ptr_8_2, fw_ptr_8_3, fw_ptr_11_2, fw_ptr_11_3, fw_ptr_11_4, fw_ptr_11_5, fw_ptr_11_6, fw_ptr_17_8, fw_ptr_18_2, fw_ptr_18_3, fw_ptr_25_1, fw_ptr_27_2, fw_ptr_28_1, fw_ptr_32_0, fw_ptr_32_1, fw_ptr_32_3, fw_ptr_32_7, fw_ptr_32_8, fw_ptr_32_9, fw_ptr_32_10, fw_ptr_32_15, fw_ptr_32_16, fw_ptr_32_17, fw_ptr_32_18, fw_ptr_32_19, fw_ptr_32_25, fw_ptr_32_29, fw_ptr_3, fw_ptr_4, fw_ptr_5, fw_ptr_6, fw_ptr_7, fw_ptr_9, fw_ptr_10, fw_ptr_13, fw_ptr_15, fw_ptr_16, fw_ptr_19, fw_ptr_20, fw_ptr_21, fw_ptr_22, fw_ptr_23, fw_ptr_24, fw_ptr_26, fw_ptr_29, fw_ptr_30, fw_ptr_31, fw_ptr_33, fw_ptr_34, fw_ptr_35, fw_ptr_36, fw_ptr_37, fw_ptr_38, fw_ptr_39, fw_ptr_40, fw_ptr_41, fw_ptr_42, fw_ptr_43, fw_ptr_44, fw_ptr_45, fw_ptr_46, fw_ptr_47, fw_ptr_48, fw_ptr_49, fw_ptr_50, fw_ptr_51, fw_ptr_52, fw_ptr_53, fw_ptr_54, fw_ptr_55, fw_ptr_12, fw_ptr_x, fw_ptr_hi, fw_ptr_b3, fw_ptr_b1, fw_ptr_b2, fw_ptr_b2_]; assumption)) only [fw_b_129_0, fw_b_129_8, fw_b_129_15, fw_b_129_22, fw_b_129_33, fw_b_129_37, fw_b_129_42, fw_b_129_52, fw_b_129_40, fw_b_129_29, fw_b_129_11, e1, g2, ↓if_pos, ↓if_neg, if_neg, if_pos, fw_bs, fw_cn_0, fw_cn_1, fw_cn_2, fw_cn_3, fw_cn_4, fw_cn_5, Nat.reduceAdd, fw_w_id, fw_wl_id, fw_r_k, fw_r_j, fw_r_s, fw_r_x, if_true, if_false]
    · by_cases c3 : 0 < fw_r σ 32 10
      · refine fg_OK_err (k := 2) (b := 0) h (by decide) ?_ ?_
        · simp (disch := first | assumption | first | omega | assumption | (simp (disch := omega) only [fw_w_id, fw_wl_id, fw_r_k, fw_r_j, fw_r_s]; omega) | (simp only [fw_ptr_1_8, fw_ptr_2_5, fw_ptr_2_6, fw_ptr_2_7, fw_ptr_2_8, fw_ptr_2_9, fw_ptr_8_2, fw_ptr_8_3, fw_ptr_11_2, fw_ptr_11_3, fw_ptr_11_4, fw_ptr_11_5, fw_ptr_11_6, fw_ptr_17_8, fw_ptr_18_2, fw_ptr_18_3, fw_ptr_25_1, fw_ptr_27_2, fw_ptr_28_1, fw_ptr_32_0, fw_ptr_32_1, fw_ptr_32_3, fw_ptr_32_7, fw_ptr_32_8, fw_ptr_32_9, fw_ptr_32_10, fw_ptr_32_15, fw_ptr_32_16, fw_ptr_32_17, fw_ptr_32_18, fw_ptr_32_19, fw_ptr_32_25, fw_ptr_32_29, fw_ptr_3, fw_ptr_4, fw_ptr_5, fw_ptr_6, fw_ptr_7, fw_ptr_9, fw_ptr_10, fw_ptr_13, fw_ptr_15, fw_ptr_16, fw_ptr_19, fw_ptr_20, fw_ptr_21, fw_ptr_22, fw_ptr_23, fw_ptr_24, fw_ptr_26, fw_ptr_29, fw_ptr_30, fw_ptr_31, fw_ptr_33, fw_ptr_34, fw_ptr_35, fw_ptr_36, fw_ptr_37, fw_ptr_38, fw_ptr_39, fw_ptr_40, fw_ptr_41, fw_ptr_42, fw_ptr_43, fw_ptr_44, fw_ptr_45, fw_ptr_46, fw_ptr_47, fw_ptr_48, fw_ptr_49, fw_ptr_50, fw_ptr_51, fw_ptr_52, fw_ptr_53, fw_ptr_54, fw_ptr_55, fw_ptr_12, fw_ptr_x, fw_ptr_hi, fw_ptr_b3, fw_ptr_b1, fw_ptr_b2, fw_ptr_b2_]; assumption)) only [fw_b_183_0, fw_b_183_15, fw_b_183_12, fw_b_183_7, fw_b_183_9, fw_h183_0, fw_h183_1, fw_b_69_0, fw_b_69_5, fw_b_69_19, fw_b_69_29, fw_b_69_47, fw_b_69_63, fw_b_69_73, fw_b_69_39, fw_b_69_11, fw_c9_69, ↓if_pos, ↓if_neg, if_neg, if_pos, fw_bs, fw_cn_0, fw_cn_1, fw_cn_2, fw_cn_3, fw_cn_4, fw_cn_5, Nat.reduceAdd, fw_w_id, fw_wl_id, fw_r_k, fw_r_j, fw_r_s, fw_r_x, if_true, if_false]
        · simp (disch := first | assumption | first | omega | assumption | (simp (disch := omega) only [fw_w_id, fw_wl_id, fw_r_k, fw_r_j, fw_r_s]; omega) | (simp only [fw_ptr_1_8, fw_ptr_2_5, fw_ptr_2_6, fw_ptr_2_7, fw_ptr_2_8, fw_ptr_2_9, fw_ptr_8_2, fw_ptr_8_3, fw_ptr_11_2, fw_ptr_11_3, fw_ptr_11_4, fw_ptr_11_5, fw_ptr_11_6, fw_ptr_17_8, fw_ptr_18_2, fw_ptr_18_3, fw_ptr_25_1, fw_ptr_27_2, fw_ptr_28_1, fw_ptr_32_0, fw_ptr_32_1, fw_ptr_32_3, fw_ptr_32_7, fw_ptr_32_8, fw_ptr_32_9, fw_ptr_32_10, fw_ptr_32_15, fw_ptr_32_16, fw_ptr_32_17, fw_ptr_32_18, fw_ptr_32_19, fw_ptr_32_25, fw_ptr_32_29, fw_ptr_3, fw_ptr_4, fw_ptr_5, fw_ptr_6, fw_ptr_7, fw_ptr_9, fw_ptr_10, fw_ptr_13, fw_ptr_15, fw_ptr_16, fw_ptr_19, fw_ptr_20, fw_ptr_21, fw_ptr_22, fw_ptr_23, fw_ptr_24, fw_ptr_26, fw_ptr_29, fw_ptr_30, fw_ptr_31, fw_ptr_33, fw_ptr_34, fw_ptr_35, fw_ptr_36, fw_ptr_37, fw_ptr_38, fw_ptr_39, fw_ptr_40, fw_ptr_41, fw_ptr_42, fw_ptr_43, fw_ptr_44, fw_ptr_45, fw_ptr_46, fw_ptr_47, fw_ptr_48, fw_ptr_49, fw_ptr_50, fw_ptr_51, fw_ptr_52, fw_ptr_53, fw_ptr_54, fw_ptr_55, fw_ptr_12, fw_ptr_x, fw_ptr_hi, fw_ptr_b3, fw_ptr_b1, fw_ptr_b2, fw_ptr_b2_]; assumption)) only [fw_b_129_0, fw_b_129_8, fw_b_129_15, fw_b_129_22, fw_b_129_33, fw_b_129_37, fw_b_129_42, fw_b_129_52, fw_b_129_40, fw_b_129_29, fw_b_129_11, e1, g2, ↓if_pos, ↓if_neg, if_neg, if_pos, fw_bs, fw_cn_0, fw_cn_1, fw_cn_2, fw_cn_3, fw_cn_4, fw_cn_5, Nat.reduceAdd, fw_w_id, fw_wl_id, fw_r_k, fw_r_j, fw_r_s, fw_r_x, if_true, if_false]
      · obtain ⟨hI2, hp1⟩ := fg_IN_loop hIN (by omega) (by omega) c1 (by omega)
        have r1 := fs_me (b := 8) (N := N) (a2 := (8, 0)) (σ := σ) (Or.inl rfl) (hp (8, 0, 9) (by decide)) (hp (8, 1, 10) (by decide)) c1
        have hpm : fw_ptr (fg_mt (fw_u (fw_u σ 8 2 N) 8 3 0) 8 0 20) := by rw [fg_mt_ptr, fw_ptr_8_3, fw_ptr_8_2]; exact hp
        have hc : ∀ a j, a ≠ 8 → a ≠ 9 → a ≠ 10 → a ≠ 11 → fw_r (fg_cmt σ N) a j = fw_r σ a j := fun a j x y z w => by
          unfold fg_cmt
          rw [fw_r_n _ (by omega), fg_mt_o _ _ _ _ (by omega) (by omega), fw_r_k _ x, fw_r_k _ x]
        have hc' : ∀ a j, a < 8 ∨ 11 < a → fw_r (fg_cmt σ N) a j = fw_r σ a j := fun a j x => hc a j (by omega) (by omega) (by omega) (by omega)
        have hcu : fw_u (fg_mt (fw_u (fw_u σ 8 2 N) 8 3 0) 8 0 20) 11 3 (N - 1) = fg_cmt σ N := rfl
        refine fg_OK_fin (v := fw_r σ 32 1) (σ1 := fw_u (fg_cmt σ N) 54 0 (fw_r σ 32 1)) (σ2 := fw_u (fw_u (fw_u (fg_cmt σ N) 54 0 (fw_r σ 32 1)) 32 0 0) 32 1 N) h ?_ ?_ ?_ ?_ hI2 (fun a j ha => by (try simp (disch := omega) only [fw_r_n, fw_r_s])) (fg_AG_u (fun a j x y z => by (try simp (disch := omega) only [fw_r_n, fw_r_s]); exact hc' _ _ (by omega)) _ _ _) (by rw [fw_ptr_32_1, fw_ptr_32_0, fw_ptr_54]; exact hp1) (by (try simp (disch := omega) only [fw_r_n, fw_r_s]); exact hc' _ _ (by decide)) (by (try simp (disch := omega) only [fw_r_n, fw_r_s]); exact hc' _ _ (by decide)) (by (try simp (disch := omega) only [fw_r_n, fw_r_s]); exact hc' _ _ (by decide)) (by (try simp (disch := omega) only [fw_r_n, fw_r_s]); exact hc' _ _ (by decide)) (fun a j ha => by (try simp (disch := omega) only [fw_r_n, fw_r_s]); exact hc' _ _ (by omega)) (fun a j ha => by rw [fw_r_k _ (by omega)]; exact hc' a j (by omega))
        · simp (disch := first | assumption | first | omega | assumption | (simp (disch := omega) only [fw_w_id, fw_wl_id, fw_r_k, fw_r_j, fw_r_s]; omega) | (simp only [fw_ptr_1_8, fw_ptr_2_5, fw_ptr_2_6, fw_ptr_2_7, fw_ptr_2_8, fw_ptr_2_9, fw_ptr_8_2, fw_ptr_8_3, fw_ptr_11_2, fw_ptr_11_3, fw_ptr_11_4, fw_ptr_11_5, fw_ptr_11_6, fw_ptr_17_8, fw_ptr_18_2, fw_ptr_18_3, fw_ptr_25_1, fw_ptr_27_2, fw_ptr_28_1, fw_ptr_32_0, fw_ptr_32_1, fw_ptr_32_3, fw_ptr_32_7, fw_ptr_32_8, fw_ptr_32_9, fw_ptr_32_10, fw_ptr_32_15, fw_ptr_32_16, fw_ptr_32_17, fw_ptr_32_18, fw_ptr_32_19, fw_ptr_32_25, fw_ptr_32_29, fw_ptr_3, fw_ptr_4, fw_ptr_5, fw_ptr_6, fw_ptr_7, fw_ptr_9, fw_ptr_10, fw_ptr_13, fw_ptr_15, fw_ptr_16, fw_ptr_19, fw_ptr_20, fw_ptr_21, fw_ptr_22, fw_ptr_23, fw_ptr_24, fw_ptr_26, fw_ptr_29, fw_ptr_30, fw_ptr_31, fw_ptr_33, fw_ptr_34, fw_ptr_35, fw_ptr_36, fw_ptr_37, fw_ptr_38, fw_ptr_39, fw_ptr_40, fw_ptr_41, fw_ptr_42, fw_ptr_43, fw_ptr_44, fw_ptr_45, fw_ptr_46, fw_ptr_47, fw_ptr_48, fw_ptr_49, fw_ptr_50, fw_ptr_51, fw_ptr_52, fw_ptr_53, fw_ptr_54, fw_ptr_55, fw_ptr_12, fw_ptr_x, fw_ptr_hi, fw_ptr_b3, fw_ptr_b1, fw_ptr_b2, fw_ptr_b2_]; assumption)) only [fw_b_183_0, fw_b_183_15, fw_b_183_12, fw_b_183_7, fw_b_183_9, fw_h183_0, fw_h183_1, fw_b_69_0, fw_b_69_5, fw_b_69_19, fw_b_69_29, fw_b_69_47, fw_b_69_63, fw_b_69_73, fw_b_69_39, fw_b_69_11, fw_c9_69, r1, h82, hcu, ↓if_pos, ↓if_neg, if_neg, if_pos, fw_bs, fw_cn_0, fw_cn_1, fw_cn_2, fw_cn_3, fw_cn_4, fw_cn_5, Nat.reduceAdd, fw_w_id, fw_wl_id, fw_r_k, fw_r_j, fw_r_s, fw_r_x, if_true, if_false]
        · generalize hcc : fg_cmt σ N = c at *
          have y3 : fw_r (fw_u c 54 0 (fw_r σ 32 1)) 32 3 = fw_r σ 32 3 := by (try simp (disch := omega) only [fw_r_n, fw_r_s]); exact hc' _ _ (by decide)
          have y10 : fw_r (fw_u c 54 0 (fw_r σ 32 1)) 32 10 = fw_r σ 32 10 := by (try simp (disch := omega) only [fw_r_n, fw_r_s]); exact hc' _ _ (by decide)
          have y1 : fw_r (fw_u (fw_u c 54 0 (fw_r σ 32 1)) 32 0 0) 32 1 = fw_r σ 32 1 := by (try simp (disch := omega) only [fw_r_n, fw_r_s]); exact hc' _ _ (by decide)
          have e1 := fs_isIn_t (m := fw_u c 54 0 (fw_r σ 32 1)) c1
          have e4 := fs_goesOn_0 (m := fw_u c 54 0 (fw_r σ 32 1))
          simp (disch := first | assumption | omega) only [fw_b_129_0, fw_b_129_8, fw_b_129_15, fw_b_129_22, fw_b_129_33, fw_b_129_37, fw_b_129_42, fw_b_129_52, e1, e4, y3, y10, y1, ↓if_pos, ↓if_neg, fw_bs, fw_cn_0, Nat.reduceAdd]
        · (try simp (disch := omega) only [fw_r_n, fw_r_s])
        · (try simp (disch := omega) only [fw_r_n, fw_r_s])
  · refine fg_OK_err (k := 1) (b := 0) h (by decide) ?_ ?_
    · by_cases c2 : N < 4
      · simp (disch := first | assumption | first | omega | assumption | (simp (disch := omega) only [fw_w_id, fw_wl_id, fw_r_k, fw_r_j, fw_r_s]; omega) | (simp only [fw_ptr_1_8, fw_ptr_2_5, fw_ptr_2_6, fw_ptr_2_7, fw_ptr_2_8, fw_ptr_2_9, fw_ptr_8_2, fw_ptr_8_3, fw_ptr_11_2, fw_ptr_11_3, fw_ptr_11_4, fw_ptr_11_5, fw_ptr_11_6, fw_ptr_17_8, fw_ptr_18_2, fw_ptr_18_3, fw_ptr_25_1, fw_ptr_27_2, fw_ptr_28_1, fw_ptr_32_0, fw_ptr_32_1, fw_ptr_32_3, fw_ptr_32_7, fw_ptr_32_8, fw_ptr_32_9, fw_ptr_32_10, fw_ptr_32_15, fw_ptr_32_16, fw_ptr_32_17, fw_ptr_32_18, fw_ptr_32_19, fw_ptr_32_25, fw_ptr_32_29, fw_ptr_3, fw_ptr_4, fw_ptr_5, fw_ptr_6, fw_ptr_7, fw_ptr_9, fw_ptr_10, fw_ptr_13, fw_ptr_15, fw_ptr_16, fw_ptr_19, fw_ptr_20, fw_ptr_21, fw_ptr_22, fw_ptr_23, fw_ptr_24, fw_ptr_26, fw_ptr_29, fw_ptr_30, fw_ptr_31, fw_ptr_33, fw_ptr_34, fw_ptr_35, fw_ptr_36, fw_ptr_37, fw_ptr_38, fw_ptr_39, fw_ptr_40, fw_ptr_41, fw_ptr_42, fw_ptr_43, fw_ptr_44, fw_ptr_45, fw_ptr_46, fw_ptr_47, fw_ptr_48, fw_ptr_49, fw_ptr_50, fw_ptr_51, fw_ptr_52, fw_ptr_53, fw_ptr_54, fw_ptr_55, fw_ptr_12, fw_ptr_x, fw_ptr_hi, fw_ptr_b3, fw_ptr_b1, fw_ptr_b2, fw_ptr_b2_]; assumption)) only [fw_b_183_0, fw_b_183_15, fw_b_183_12, fw_b_183_7, fw_b_183_9, fw_h183_0, fw_h183_1, fw_b_69_0, fw_b_69_5, fw_b_69_19, fw_b_69_29, fw_b_69_47, fw_b_69_63, fw_b_69_73, fw_b_69_39, fw_b_69_11, fw_c9_69, ↓if_pos, ↓if_neg, if_neg, if_pos, fw_bs, fw_cn_0, fw_cn_1, fw_cn_2, fw_cn_3, fw_cn_4, fw_cn_5, Nat.reduceAdd, fw_w_id, fw_wl_id, fw_r_k, fw_r_j, fw_r_s, fw_r_x, if_true, if_false]
      · simp (disch := first | assumption | first | omega | assumption | (simp (disch := omega) only [fw_w_id, fw_wl_id, fw_r_k, fw_r_j, fw_r_s]; omega) | (simp only [fw_ptr_1_8, fw_ptr_2_5, fw_ptr_2_6, fw_ptr_2_7, fw_ptr_2_8, fw_ptr_2_9, fw_ptr_8_2, fw_ptr_8_3, fw_ptr_11_2, fw_ptr_11_3, fw_ptr_11_4, fw_ptr_11_5, fw_ptr_11_6, fw_ptr_17_8, fw_ptr_18_2, fw_ptr_18_3, fw_ptr_25_1, fw_ptr_27_2, fw_ptr_28_1, fw_ptr_32_0, fw_ptr_32_1, fw_ptr_32_3, fw_ptr_32_7, fw_ptr_32_8, fw_ptr_32_9, fw_ptr_32_10, fw_ptr_32_15, fw_ptr_32_16, fw_ptr_32_17, fw_ptr_32_18, fw_ptr_32_19, fw_ptr_32_25, fw_ptr_32_29, fw_ptr_3, fw_ptr_4, fw_ptr_5, fw_ptr_6, fw_ptr_7, fw_ptr_9, fw_ptr_10, fw_ptr_13, fw_ptr_15, fw_ptr_16, fw_ptr_19, fw_ptr_20, fw_ptr_21, fw_ptr_22, fw_ptr_23, fw_ptr_24, fw_ptr_26, fw_ptr_29, fw_ptr_30, fw_ptr_31, fw_ptr_33, fw_ptr_34, fw_ptr_35, fw_ptr_36, fw_ptr_37, fw_ptr_38, fw_ptr_39, fw_ptr_40, fw_ptr_41, fw_ptr_42, fw_ptr_43, fw_ptr_44, fw_ptr_45, fw_ptr_46, fw_ptr_47, fw_ptr_48, fw_ptr_49, fw_ptr_50, fw_ptr_51, fw_ptr_52, fw_ptr_53, fw_ptr_54, fw_ptr_55, fw_ptr_12, fw_ptr_x, fw_ptr_hi, fw_ptr_b3, fw_ptr_b1, fw_ptr_b2, fw_ptr_b2_]; assumption)) only [fw_b_183_0, fw_b_183_15, fw_b_183_12, fw_b_183_7, fw_b_183_9, fw_h183_0, fw_h183_1, fw_b_69_0, fw_b_69_5, fw_b_69_19, fw_b_69_29, fw_b_69_47, fw_b_69_63, fw_b_69_73, fw_b_69_39, fw_b_69_11, fw_c9_69, ↓if_pos, ↓if_neg, if_neg, if_pos, fw_bs, fw_cn_0, fw_cn_1, fw_cn_2, fw_cn_3, fw_cn_4, fw_cn_5, Nat.reduceAdd, fw_w_id, fw_wl_id, fw_r_k, fw_r_j, fw_r_s, fw_r_x, if_true, if_false]
    · have e1 := fs_isIn_f (m := fw_ex σ) c1
      simp (disch := first | assumption | first | omega | assumption | (simp (disch := omega) only [fw_w_id, fw_wl_id, fw_r_k, fw_r_j, fw_r_s]; omega) | (simp only [fw_ptr_1_8, fw_ptr_2_5, fw_ptr_2_6, fw_ptr_2_7, fw_ptr_2_8, fw_ptr_2_9, fw_ptr_8_2, fw_ptr_8_3, fw_ptr_11_2, fw_ptr_11_3, fw_ptr_11_4, fw_ptr_11_5, fw_ptr_11_6, fw_ptr_17_8, fw_ptr_18_2, fw_ptr_18_3, fw_ptr_25_1, fw_ptr_27_2, fw_ptr_28_1, fw_ptr_32_0, fw_ptr_32_1, fw_ptr_32_3, fw_ptr_32_7, fw_ptr_32_8, fw_ptr_32_9, fw_ptr_32_10, fw_ptr_32_15, fw_ptr_32_16, fw_ptr_32_17, fw_ptr_32_18, fw_ptr_32_19, fw_ptr_32_25, fw_ptr_32_29, fw_ptr_3, fw_ptr_4, fw_ptr_5, fw_ptr_6, fw_ptr_7, fw_ptr_9, fw_ptr_10, fw_ptr_13, fw_ptr_15, fw_ptr_16, fw_ptr_19, fw_ptr_20, fw_ptr_21, fw_ptr_22, fw_ptr_23, fw_ptr_24, fw_ptr_26, fw_ptr_29, fw_ptr_30, fw_ptr_31, fw_ptr_33, fw_ptr_34, fw_ptr_35, fw_ptr_36, fw_ptr_37, fw_ptr_38, fw_ptr_39, fw_ptr_40, fw_ptr_41, fw_ptr_42, fw_ptr_43, fw_ptr_44, fw_ptr_45, fw_ptr_46, fw_ptr_47, fw_ptr_48, fw_ptr_49, fw_ptr_50, fw_ptr_51, fw_ptr_52, fw_ptr_53, fw_ptr_54, fw_ptr_55, fw_ptr_12, fw_ptr_x, fw_ptr_hi, fw_ptr_b3, fw_ptr_b1, fw_ptr_b2, fw_ptr_b2_]; assumption)) only [fw_b_129_0, fw_b_129_8, fw_b_129_15, fw_b_129_22, fw_b_129_33, fw_b_129_37, fw_b_129_42, fw_b_129_52, fw_b_129_40, fw_b_129_29, fw_b_129_11, e1, g1, ↓if_pos, ↓if_neg, if_neg, if_pos, fw_bs, fw_cn_0, fw_cn_1, fw_cn_2, fw_cn_3, fw_cn_4, fw_cn_5, Nat.reduceAdd, fw_w_id, fw_wl_id, fw_r_k, fw_r_j, fw_r_s, fw_r_x, if_true, if_false]
