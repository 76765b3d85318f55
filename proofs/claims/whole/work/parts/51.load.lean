/-! load -/
def fg_ldm (m : fw_M) (r : Int) : Int → Int := fun j => if (fw_r m 39 j = 0 ∨ fw_r m 39 j = 1) ∧ fw_r m 37 j = r then fw_r m 38 j else 0
def fg_ld (m : fw_M) (r : Int) : Int := fg_sf (fg_ldm m r) 0 (fw_r m 32 10).toNat
theorem fs_loadOfM_lp {m : fw_M} {r : Int} (hp : fw_ptr m) (hP : 0 ≤ fw_r m 32 10 ∧ fw_r m 32 10 ≤ 300) (hw : ∀ j, 0 ≤ j → j < fw_r m 32 10 → 1 ≤ fw_r m 38 j ∧ fw_r m 38 j ≤ 9) : ∀ (k : Nat) (i acc : Int), 0 ≤ i → i + k = fw_r m 32 10 → 0 ≤ acc → acc ≤ 9 * i → fw_E 159 4 [(2, 32), (0, r), (0, acc), (0, i)] [] m = some ((0, acc + fg_sf (fg_ldm m r) i k), m) := by
  intro k
  induction k with
  | zero =>
    intro i acc h0 h1 h2 h3
    rw [fw_b_159_4, if_neg (by omega), fw_b_159_60, fg_sf, Int.add_zero]
  | succ k ih =>
    intro i acc h0 h1 h2 h3
    have w := hw i h0 (by omega)
    have bd : 0 ≤ fg_ldm m r i ∧ fg_ldm m r i ≤ 9 := by unfold fg_ldm; split <;> omega
    have step : fw_E 159 4 [(2, 32), (0, r), (0, acc), (0, i)] [] m = fw_E 159 4 [(2, 32), (0, r), (0, acc + fg_ldm m r i), (0, i + 1)] [] m := by
      rw [fw_b_159_4, if_pos (by omega), fw_b_159_12 _ _ _ _ hp h0 (by omega)]
      by_cases c1 : fw_r m 37 i = r
      · rw [if_pos c1, fw_b_159_23 _ _ _ _ _ hp h0 (by omega)]
        by_cases c2 : fw_r m 39 i = 0
        · have e : fg_ldm m r i = fw_r m 38 i := by unfold fg_ldm; rw [if_pos ⟨Or.inl c2, c1⟩]
          rw [if_pos c2, fw_b_159_42 _ _ _ _ _ hp h0 (by omega), fw_w_id (by omega) (by omega), fw_w_id (by omega) (by omega), e]
        · rw [if_neg c2, fw_b_159_32 _ _ _ _ _ hp h0 (by omega)]
          by_cases c3 : fw_r m 39 i = 1
          · have e : fg_ldm m r i = fw_r m 38 i := by unfold fg_ldm; rw [if_pos ⟨Or.inr c3, c1⟩]
            rw [if_pos c3, fw_b_159_42 _ _ _ _ _ hp h0 (by omega), fw_w_id (by omega) (by omega), fw_w_id (by omega) (by omega), e]
          · have e : fg_ldm m r i = 0 := by unfold fg_ldm; rw [if_neg (fun h => h.1.elim c2 c3)]
            rw [if_neg c3, fw_b_159_51, fw_w_id (by omega) (by omega), fw_w_id (by omega) (by omega), e]
      · have e : fg_ldm m r i = 0 := by unfold fg_ldm; rw [if_neg (fun h => c1 h.2)]
        rw [if_neg c1, fw_b_159_51, fw_w_id (by omega) (by omega), fw_w_id (by omega) (by omega), e]
    rw [step, ih (i + 1) _ (by omega) (by omega) (by omega) (by omega), fg_sf]
    congr 3; omega
theorem fs_loadOfM {m : fw_M} {r : Int} {a2 a3 : fw_V} (hp : fw_ptr m) (hP : 0 ≤ fw_r m 32 10 ∧ fw_r m 32 10 ≤ 300) (hw : ∀ j, 0 ≤ j → j < fw_r m 32 10 → 1 ≤ fw_r m 38 j ∧ fw_r m 38 j ≤ 9) : fw_E 159 0 [(2, 32), (0, r), a2, a3] [] m = some ((0, fg_ld m r), m) := by
  rw [fw_b_159_0, fs_loadOfM_lp hp hP hw (fw_r m 32 10).toNat 0 0 (by omega) (by omega) (by omega) (by omega), Int.zero_add]
  rfl
theorem fg_ld_eq {m m' : fw_M} (h10 : fw_r m' 32 10 = fw_r m 32 10) (h37 : ∀ j, fw_r m' 37 j = fw_r m 37 j) (h38 : ∀ j, fw_r m' 38 j = fw_r m 38 j) (h39 : ∀ j, fw_r m' 39 j = fw_r m 39 j) (r : Int) : fg_ld m' r = fg_ld m r := by
  unfold fg_ld fg_ldm
  simp only [h10, h37, h38, h39]
theorem fg_ld_c {M : Int} {c m : fw_M} (h : fg_IN M c m) (r : Int) : fg_sf (fg_ldf c r) 0 (fw_r c 2 5).toNat = fg_ld m r := by
  have e5 := h.1.1.2.1.2.2.2.2.2
  unfold fg_ld
  rw [e5]
  refine fg_sf_ext _ _ (fun j a b => ?_)
  have hP := h.1.1.2.2.1.2.2.2
  have g := h.2.2.1.2.2.2.1 j a (by omega)
  have g3 := h.1.1.2.2.2.2.2.1 j a (by omega)
  unfold fg_ldf fg_ldm
  rw [g.1.1, g3.1, g.2.2.1]
  have s := g.2.1
  have : (fg_code (fw_r m 39 j) = 119 ∨ fg_code (fw_r m 39 j) = 108) ↔ (fw_r m 39 j = 0 ∨ fw_r m 39 j = 1) := by
    unfold fg_code
    constructor
    · intro hx
      by_cases c0 : fw_r m 39 j = 0
      · exact Or.inl c0
      · rw [if_neg c0] at hx
        by_cases c1 : fw_r m 39 j = 1
        · exact Or.inr c1
        · rw [if_neg c1] at hx
          by_cases c2 : fw_r m 39 j = 2
          · rw [if_pos c2] at hx; omega
          · rw [if_neg c2] at hx
            by_cases c3 : fw_r m 39 j = 3
            · rw [if_pos c3] at hx; omega
            · rw [if_neg c3] at hx; omega
    · rintro (hx | hx)
      · rw [if_pos hx]; exact Or.inl rfl
      · rw [if_neg (by omega), if_pos hx]; exact Or.inr rfl
  by_cases z : (fw_r m 39 j = 0 ∨ fw_r m 39 j = 1) ∧ fw_r m 37 j = r
  · rw [if_pos z, if_pos ⟨this.2 z.1, z.2⟩]
  · rw [if_neg z, if_neg (fun hx => z ⟨this.1 hx.1, hx.2⟩)]
theorem fg_ld_bd {M : Int} {c m : fw_M} (h : fg_IN M c m) (r : Int) : 0 ≤ fg_ld m r ∧ fg_ld m r ≤ 2700 := by
  have hP := h.1.1.2.2.1.2.2.2
  have := fg_sf_bd (f := fg_ldm m r) (lo := 0) (hi := 9) (fw_r m 32 10).toNat 0 (fun j a b => by
    have g := h.2.2.1.2.2.2.1 j a (by omega)
    unfold fg_ldm; split <;> omega)
  unfold fg_ld
  omega
theorem fg_hw {M : Int} {c m : fw_M} (h : fg_IN M c m) : (∀ j, 0 ≤ j → j < fw_r c 2 5 → 1 ≤ fw_r c 4 j ∧ fw_r c 4 j ≤ 9) ∧ (∀ j, 0 ≤ j → j < fw_r m 32 10 → 1 ≤ fw_r m 38 j ∧ fw_r m 38 j ≤ 9) := by
  have e5 := h.1.1.2.1.2.2.2.2.2
  refine ⟨fun j a b => ?_, fun j a b => ?_⟩
  · have g := (h.2.2.1.2.2.2.1 j a (by omega)).1
    omega
  · have g := (h.2.2.1.2.2.2.1 j a (by omega)).1
    omega
theorem op_load {t x : Int} {σ : fw_M} (h : fg_INV t σ) : fg_OK t (fun σ => fw_E 202 0 [(2, 1), (0, x), (2, 54), (8, 0)] [] σ) (fun σ => fw_E 168 0 [(2, 32), (0, x)] [] σ) σ := by
  obtain ⟨⟨hp, hk, hpk⟩, ⟨h3, h30, h36⟩, hN, h82, h113, h25, hP⟩ := fg_facts h
  by_cases c1 : 0 ≤ x ∧ x < 8
  · have r1 := fs_rRoute_t (σ := σ) c1
    have r2 := fs_loadOf (r := x) (a2 := (8, 0)) (a3 := (8, 0)) (a4 := (8, 0)) hp hpk (fg_hw h.1).1
    rw [fg_ld_c h.1 x] at r2
    refine fg_OK_get (v := fg_ld σ x) h ?_ ?_
    · simp (disch := first | assumption | first | omega | assumption | (simp (disch := omega) only [fw_w_id, fw_wl_id, fw_r_k, fw_r_j, fw_r_s]; omega) | (simp only [fw_ptr_1_8, fw_ptr_2_5, fw_ptr_2_6, fw_ptr_2_7, fw_ptr_2_8, fw_ptr_2_9, fw_ptr_8_2, fw_ptr_8_3, fw_ptr_11_2, fw_ptr_11_3, fw_ptr_11_4, fw_ptr_11_5, fw_ptr_11_6, fw_ptr_17_8, fw_ptr_18_2, fw_ptr_18_3, fw_ptr_25_1, fw_ptr_27_2, fw_ptr_28_1, fw_ptr_32_0, fw_ptr_32_1, fw_ptr_32_3, fw_ptr_32_7, fw_ptr_32_8, fw_ptr_32_9, fw_ptr_32_10, fw_ptr_32_15, fw_ptr_32_16, fw_ptr_32_17, fw_ptr_32_18, fw_ptr_32_19, fw_ptr_32_25, fw_ptr_32_29, fw_ptr_3, fw_ptr_4, fw_ptr_5, fw_ptr_6, fw_ptr_7, fw_ptr_9, fw_ptr_10, fw_ptr_13, fw_ptr_15, fw_ptr_16, fw_ptr_19, fw_ptr_20, fw_ptr_21, fw_ptr_22, fw_ptr_23, fw_ptr_24, fw_ptr_26, fw_ptr_29, fw_ptr_30, fw_ptr_31, fw_ptr_33, fw_ptr_34, fw_ptr_35, fw_ptr_36, fw_ptr_37, fw_ptr_38, fw_ptr_39, fw_ptr_40, fw_ptr_41, fw_ptr_42, fw_ptr_43, fw_ptr_44, fw_ptr_45, fw_ptr_46, fw_ptr_47, fw_ptr_48, fw_ptr_49, fw_ptr_50, fw_ptr_51, fw_ptr_52, fw_ptr_53, fw_ptr_54, fw_ptr_55, fw_ptr_12, fw_ptr_x, fw_ptr_hi, fw_ptr_b3, fw_ptr_b1, fw_ptr_b2, fw_ptr_b2_]; assumption)) only [fw_b_202_0, fw_b_202_12, fw_b_202_7, fw_b_202_9, fw_h202_0, fw_b_92_0, fw_b_92_4, fw_b_92_12, fw_c9_92, r1, r2, ↓if_pos, ↓if_neg, if_neg, if_pos, fw_bs, fw_cn_0, fw_cn_1, fw_cn_2, fw_cn_3, fw_cn_4, fw_cn_5, Nat.reduceAdd, fw_w_id, fw_wl_id, fw_r_k, fw_r_j, fw_r_s, fw_r_x, if_true, if_false]
    · have e1 := fs_isRouteM_t (m := fw_u σ 54 0 (fg_ld σ x)) c1
      have e4 := fs_goesOn_0 (m := fw_u σ 54 0 (fg_ld σ x))
      have r3 := fs_loadOfM (m := fw_u (fw_u σ 54 0 (fg_ld σ x)) 32 0 0) (r := x) (a2 := (8, 0)) (a3 := (8, 0)) (by rw [fw_ptr_32_0, fw_ptr_54]; exact hp) (by (try simp (disch := omega) only [fw_r_n, fw_r_s]); exact hP) (fun j a b => by simp (disch := omega) only [fw_r_n] at b ⊢; exact (fg_hw h.1).2 j a b)
      rw [fg_ld_eq (m := σ) (m' := fw_u (fw_u σ 54 0 (fg_ld σ x)) 32 0 0) (by (try simp (disch := omega) only [fw_r_n, fw_r_s])) (fun j => by (try simp (disch := omega) only [fw_r_n, fw_r_s])) (fun j => by (try simp (disch := omega) only [fw_r_n, fw_r_s])) (fun j => by (try simp (disch := omega) only [fw_r_n, fw_r_s]))] at r3
      simp (disch := first | assumption | omega) only [fw_b_168_0, fw_b_168_5, fw_b_168_8, fw_b_168_16, fw_b_168_19, fw_b_168_24, e1, e4, r3, ↓if_pos, ↓if_neg, fw_bs, fw_cn_0, Nat.reduceAdd]
  · have r1 := fs_rRoute_f (σ := σ) c1
    have e1 := fs_isRouteM_f (m := fw_ex σ) c1
    have g1 := fs_goesOn_n (m := fw_ex σ) (v := 1) (by decide)
    refine fg_OK_err (k := 1) (b := 0) h (by decide) ?_ ?_
    · simp (disch := first | assumption | first | omega | assumption | (simp (disch := omega) only [fw_w_id, fw_wl_id, fw_r_k, fw_r_j, fw_r_s]; omega) | (simp only [fw_ptr_1_8, fw_ptr_2_5, fw_ptr_2_6, fw_ptr_2_7, fw_ptr_2_8, fw_ptr_2_9, fw_ptr_8_2, fw_ptr_8_3, fw_ptr_11_2, fw_ptr_11_3, fw_ptr_11_4, fw_ptr_11_5, fw_ptr_11_6, fw_ptr_17_8, fw_ptr_18_2, fw_ptr_18_3, fw_ptr_25_1, fw_ptr_27_2, fw_ptr_28_1, fw_ptr_32_0, fw_ptr_32_1, fw_ptr_32_3, fw_ptr_32_7, fw_ptr_32_8, fw_ptr_32_9, fw_ptr_32_10, fw_ptr_32_15, fw_ptr_32_16, fw_ptr_32_17, fw_ptr_32_18, fw_ptr_32_19, fw_ptr_32_25, fw_ptr_32_29, fw_ptr_3, fw_ptr_4, fw_ptr_5, fw_ptr_6, fw_ptr_7, fw_ptr_9, fw_ptr_10, fw_ptr_13, fw_ptr_15, fw_ptr_16, fw_ptr_19, fw_ptr_20, fw_ptr_21, fw_ptr_22, fw_ptr_23, fw_ptr_24, fw_ptr_26, fw_ptr_29, fw_ptr_30, fw_ptr_31, fw_ptr_33, fw_ptr_34, fw_ptr_35, fw_ptr_36, fw_ptr_37, fw_ptr_38, fw_ptr_39, fw_ptr_40, fw_ptr_41, fw_ptr_42, fw_ptr_43, fw_ptr_44, fw_ptr_45, fw_ptr_46, fw_ptr_47, fw_ptr_48, fw_ptr_49, fw_ptr_50, fw_ptr_51, fw_ptr_52, fw_ptr_53, fw_ptr_54, fw_ptr_55, fw_ptr_12, fw_ptr_x, fw_ptr_hi, fw_ptr_b3, fw_ptr_b1, fw_ptr_b2, fw_ptr_b2_]; assumption)) only [fw_b_202_0, fw_b_202_12, fw_b_202_7, fw_b_202_9, fw_h202_0, fw_b_92_0, fw_b_92_4, fw_b_92_12, fw_c9_92, r1, ↓if_pos, ↓if_neg, if_neg, if_pos, fw_bs, fw_cn_0, fw_cn_1, fw_cn_2, fw_cn_3, fw_cn_4, fw_cn_5, Nat.reduceAdd, fw_w_id, fw_wl_id, fw_r_k, fw_r_j, fw_r_s, fw_r_x, if_true, if_false]
    · simp (disch := first | assumption | first | omega | assumption | (simp (disch := omega) only [fw_w_id, fw_wl_id, fw_r_k, fw_r_j, fw_r_s]; omega) | (simp only [fw_ptr_1_8, fw_ptr_2_5, fw_ptr_2_6, fw_ptr_2_7, fw_ptr_2_8, fw_ptr_2_9, fw_ptr_8_2, fw_ptr_8_3, fw_ptr_11_2, fw_ptr_11_3, fw_ptr_11_4, fw_ptr_11_5, fw_ptr_11_6, fw_ptr_17_8, fw_ptr_18_2, fw_ptr_18_3, fw_ptr_25_1, fw_ptr_27_2, fw_ptr_28_1, fw_ptr_32_0, fw_ptr_32_1, fw_ptr_32_3, fw_ptr_32_7, fw_ptr_32_8, fw_ptr_32_9, fw_ptr_32_10, fw_ptr_32_15, fw_ptr_32_16, fw_ptr_32_17, fw_ptr_32_18, fw_ptr_32_19, fw_ptr_32_25, fw_ptr_32_29, fw_ptr_3, fw_ptr_4, fw_ptr_5, fw_ptr_6, fw_ptr_7, fw_ptr_9, fw_ptr_10, fw_ptr_13, fw_ptr_15, fw_ptr_16, fw_ptr_19, fw_ptr_20, fw_ptr_21, fw_ptr_22, fw_ptr_23, fw_ptr_24, fw_ptr_26, fw_ptr_29, fw_ptr_30, fw_ptr_31, fw_ptr_33, fw_ptr_34, fw_ptr_35, fw_ptr_36, fw_ptr_37, fw_ptr_38, fw_ptr_39, fw_ptr_40, fw_ptr_41, fw_ptr_42, fw_ptr_43, fw_ptr_44, fw_ptr_45, fw_ptr_46, fw_ptr_47, fw_ptr_48, fw_ptr_49, fw_ptr_50, fw_ptr_51, fw_ptr_52, fw_ptr_53, fw_ptr_54, fw_ptr_55, fw_ptr_12, fw_ptr_x, fw_ptr_hi, fw_ptr_b3, fw_ptr_b1, fw_ptr_b2, fw_ptr_b2_]; assumption)) only [fw_b_168_0, fw_b_168_5, fw_b_168_8, fw_b_168_16, fw_b_168_19, fw_b_168_24, fw_b_168_27, fw_b_168_12, e1, g1, ↓if_pos, ↓if_neg, if_neg, if_pos, fw_bs, fw_cn_0, fw_cn_1, fw_cn_2, fw_cn_3, fw_cn_4, fw_cn_5, Nat.reduceAdd, fw_w_id, fw_wl_id, fw_r_k, fw_r_j, fw_r_s, fw_r_x, if_true, if_false]
