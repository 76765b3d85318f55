/-! trucks -/
theorem fs_tHas_t {σ : fw_M} {u : Int} (h0 : 0 ≤ u) (h1 : u < fw_r σ 27 2) (h2 : u < 300) : fw_E 18 0 [(2, 27), (0, u)] [] σ = some ((0, 1), σ) := by
  simp (disch := omega) only [fw_b_18_0, fw_b_18_4, fw_b_18_23, fw_b_18_12, fw_b_18_19, ↓if_pos, ↓if_neg]
theorem fs_tHas_f {σ : fw_M} {u : Int} (h1 : ¬u < fw_r σ 27 2) : fw_E 18 0 [(2, 27), (0, u)] [] σ = some ((0, 0), σ) := by
  by_cases h0 : u < 0
  · simp (disch := omega) only [fw_b_18_0, fw_b_18_4, fw_b_18_23, fw_b_18_12, fw_b_18_19, ↓if_pos, ↓if_neg]
  · simp (disch := omega) only [fw_b_18_0, fw_b_18_4, fw_b_18_23, fw_b_18_12, fw_b_18_19, ↓if_pos, ↓if_neg]
theorem fs_startOf_t {σ : fw_M} {u : Int} (hp : fw_ptr σ) (h0 : 0 ≤ u) (h1 : u < fw_r σ 27 2) (h2 : u < 300) : fw_E 20 0 [(2, 27), (0, u)] [] σ = some ((0, fw_r σ 30 u), σ) := by
  rw [fw_b_20_0, fs_tHas_t h0 h1 h2, fw_bs, fw_cn_0, fw_b_20_5, if_neg (by decide), fw_b_20_8 _ _ hp h0 h2]
theorem fs_startOf_f {σ : fw_M} {u : Int} (hp : fw_ptr σ) (h1 : ¬u < fw_r σ 27 2) : fw_E 20 0 [(2, 27), (0, u)] [] σ = some ((0, fw_r σ 28 1), σ) := by
  rw [fw_b_20_0, fs_tHas_f h1, fw_bs, fw_cn_0, fw_b_20_5, if_pos rfl, fw_b_20_17 _ _ hp]
theorem fg_T_bd {M : Int} {c m : fw_M} (h : fg_IN M c m) : 0 ≤ fw_r m 32 25 ∧ fw_r m 32 25 ≤ fw_r c 28 1 ∧ fw_r c 28 1 ≤ 300 := by
  have hF := h.2.1.2.1.2.1
  have g := h.2.2.2.1.2.2.2.2
  have hb := fg_sf_bd (f := fg_sv m 3) (lo := 0) (hi := 1) (fw_r m 32 15).toNat 0 (fun j _ _ => by unfold fg_sv; split <;> omega)
  have := h.2.2.2.2.2.2.2.1.1
  omega
theorem fs_sizeOf {M u : Int} {c m : fw_M} (h : fg_IN M c m) (h0 : 0 ≤ u) (h1 : u < fw_r m 32 25) : fw_E 21 0 [(2, 27), (0, u)] [] c = some ((0, fw_r m 46 u), c) := by
  have hb := fg_T_bd h
  have hp := h.1.1.1.1
  obtain ⟨g1, -, g3, -⟩ := h.2.2.2.2.2.2.2.1
  have g := g3 u h0 h1
  have ha := fs_tHas_t (σ := c) (u := u) h0 (by omega) (by omega)
  have hs := fs_startOf_t hp h0 (by omega : u < fw_r c 27 2) (by omega)
  have hs1 : fw_E 20 0 [(2, 27), (0, u + 1)] [] c = some ((0, fw_r c 30 u + fw_r m 46 u), c) := by
    by_cases hu : u + 1 < fw_r m 32 25
    · rw [fs_startOf_t hp (by omega) (by omega) (by omega), g.2.2.2.2.1 hu]
    · rw [fs_startOf_f hp (by omega), g.2.2.2.2.2 (by omega)]
  rw [fw_b_21_0, ha, fw_bs, fw_cn_0, fw_b_21_5, if_neg (by decide), fw_b_21_8, fw_w_id (by omega) (by omega), hs1, fw_bs, fw_cn_0, fw_b_21_15, hs, fw_bs, fw_cn_0, fw_b_21_20, fw_w_id (by omega) (by omega)]
  congr 3; omega
/-- the parcel at a place of a truck -/
def fg_pt (c : fw_M) (u i : Int) : Int := fw_r c 29 (fw_r c 30 u + i)
theorem fg_pt_in {M u i : Int} {c m : fw_M} (h : fg_IN M c m) (h0 : 0 ≤ u) (h1 : u < fw_r m 32 25) (i0 : 0 ≤ i) (i1 : i < fw_r m 46 u) : (0 ≤ fg_pt c u i ∧ fg_pt c u i < 300) ∧ fw_r m 39 (fg_pt c u i) = 3 ∧ fw_r m 47 (fg_pt c u i) = u ∧ fw_r m 48 (fg_pt c u i) = i := by
  have hF := h.2.1.2.1.2.1
  obtain ⟨g1, g2, g3, g4, g5⟩ := h.2.2.2.2.2.2.2.1
  have g := g3 u h0 h1
  have g' := g2 (fw_r c 30 u + i) (by omega) (by omega)
  have g'' := g4 u i h0 h1 i0 i1
  exact ⟨⟨g'.1.1, by unfold fg_pt; omega⟩, g'.2, g''⟩
theorem fs_parcelAtM_lp {M u i : Int} {c m : fw_M} (h : fg_IN M c m) (h0 : 0 ≤ u) (h1 : u < fw_r m 32 25) (i0 : 0 ≤ i) (i1 : i < fw_r m 46 u) : ∀ (k : Nat) (p : Int), 0 ≤ p → p + k = fg_pt c u i → fw_E 175 2 [(2, 32), (0, u), (0, i), (0, p)] [] m = some ((0, fg_pt c u i), m) := by
  have z := fg_pt_in h h0 h1 i0 i1
  have hpm := h.1.2
  intro k
  induction k with
  | zero =>
    intro p p0 e
    have e' : p = fg_pt c u i := by omega
    subst e'
    rw [fw_b_175_2 _ _ _ _ hpm z.1.1 z.1.2, if_pos z.2.1, fw_b_175_12 _ _ _ _ hpm z.1.1 z.1.2, if_pos z.2.2.1, fw_b_175_22 _ _ _ _ hpm z.1.1 z.1.2, if_pos z.2.2.2, fw_b_175_38]
  | succ k ih =>
    intro p p0 e
    have r := ih (p + 1) (by omega) (by omega)
    rw [fw_b_175_2 _ _ _ _ hpm p0 (by omega)]
    by_cases c1 : fw_r m 39 p = 3
    · rw [if_pos c1, fw_b_175_12 _ _ _ _ hpm p0 (by omega)]
      by_cases c2 : fw_r m 47 p = u
      · rw [if_pos c2, fw_b_175_22 _ _ _ _ hpm p0 (by omega)]
        by_cases c3 : fw_r m 48 p = i
        · exfalso
          have gC := h.2.2.1
          have pF : p < fw_r m 32 15 := by
            by_cases hpP : p < fw_r m 32 10
            · have := (gC.2.2.2.1 p p0 hpP).2.2.2.1; omega
            · have := (gC.2.2.2.2 p (by omega) (by omega)).1; omega
          have g := (h.2.2.2.2.2.2.2.1.2.2.2.2 p p0 pF c1).2.2
          rw [c2, c3] at g
          unfold fg_pt at e
          omega
        · rw [if_neg c3, fw_b_175_32, fw_w_id (by omega) (by omega), r]
      · rw [if_neg c2, fw_b_175_32, fw_w_id (by omega) (by omega), r]
    · rw [if_neg c1, fw_b_175_32, fw_w_id (by omega) (by omega), r]
theorem fs_parcelAtM {M u i : Int} {c m : fw_M} {a3 : fw_V} (h : fg_IN M c m) (h0 : 0 ≤ u) (h1 : u < fw_r m 32 25) (i0 : 0 ≤ i) (i1 : i < fw_r m 46 u) : fw_E 175 0 [(2, 32), (0, u), (0, i), a3] [] m = some ((0, fg_pt c u i), m) := by
  have z := fg_pt_in h h0 h1 i0 i1
  rw [fw_b_175_0]
  exact fs_parcelAtM_lp h h0 h1 i0 i1 (fg_pt c u i).toNat 0 (by omega) (by omega)
theorem fs_sealTM_lp {M u : Int} {c m : fw_M} (h : fg_IN M c m) (h0 : 0 ≤ u) (h1 : u < fw_r m 32 25) : ∀ (k : Nat) (i a b : Int), 0 ≤ i → i + k = fw_r m 46 u → 0 ≤ a → a < 9973 → 0 ≤ b → b < 9973 → fw_E 176 35 [(2, 32), (0, u), (0, a), (0, b), (0, i)] [] m = some ((0, 10000 * (fg_se (fg_pt c u) i k (a, b)).2 + (fg_se (fg_pt c u) i k (a, b)).1), m) := by
  have hpm := h.1.2
  have hT := fg_T_bd h
  have hz := (h.2.2.2.2.2.2.2.1.2.2.1 u h0 h1).2.2.1
  intro k
  induction k with
  | zero =>
    intro i a b i0 e a0 a1 b0 b1
    rw [fw_b_176_35 _ _ _ _ _ hpm h0 (by omega), if_neg (by omega), fw_b_176_76, fw_w_id (x := 10000 * b) (by omega) (by omega), fw_w_id (by omega) (by omega), fg_se]
  | succ k ih =>
    intro i a b i0 e a0 a1 b0 b1
    have z := fg_pt_in h h0 h1 i0 (by omega : i < fw_r m 46 u)
    have e1 : fw_w (fw_w (a + fg_pt c u i) + 1) = a + fg_pt c u i + 1 := by rw [fw_w_id (x := a + fg_pt c u i) (by omega) (by omega), fw_w_id (by omega) (by omega)]
    have e2 : fw_w (b + (a + fg_pt c u i + 1) % 9973) = b + (a + fg_pt c u i + 1) % 9973 := fw_w_id (by omega) (by omega)
    rw [fw_b_176_35 _ _ _ _ _ hpm h0 (by omega), if_pos (by omega), fw_b_176_46, fs_parcelAtM h h0 h1 i0 (by omega), fw_bs, fw_cn_0, fw_b_176_54 _ _ _ _ _ _ _ (by rw [e1]; omega) (by rw [e1, e2]; omega), e1, e2, fw_w_id (by omega) (by omega), fg_se]
    exact ih (i + 1) _ _ (by omega) (by omega) (by omega) (by omega) (by omega) (by omega)
theorem op_sealOfTruck {t x : Int} {σ : fw_M} (h : fg_INV t σ) : fg_OK t (fun σ => fw_E 207 0 [(2, 1), (0, x), (2, 54), (8, 0)] [] σ) (fun σ => fw_E 176 0 [(2, 32), (0, x), (8, 0), (8, 0), (8, 0)] [] σ) σ := by
  obtain ⟨⟨hp, hk, hpk⟩, -⟩ := fg_facts h
  have hT := fg_T_bd h.1
  obtain ⟨g1, g2, g3, g4, g5⟩ := h.1.2.2.2.2.2.2.2.1
  have w1 : fw_w (fw_r σ 32 25 - 1) = fw_r σ 32 25 - 1 := fw_w_id (by omega) (by omega)
  by_cases c1 : 0 ≤ x ∧ x < fw_r σ 32 25
  · have g := g3 x c1.1 c1.2
    have r1 := fs_rTruck_t (r := x) hp (by omega) (by omega : 0 ≤ x ∧ x < fw_r σ 27 2)
    have r2 := fs_startOf_t hp c1.1 (by omega : x < fw_r σ 27 2) (by omega)
    have r3 := fs_sizeOf h.1 c1.1 c1.2
    have hr28 : fw_rw σ 28 := ⟨by decide, by decide, hp (28, 0, 29) (by decide)⟩
    have r4 := fs_sealOf (r := 28) (s := fw_r σ 30 x) (e := fw_r σ 30 x + fw_r σ 46 x) (a3 := (8, 0)) (a4 := (8, 0)) (a5 := (8, 0)) hr28 g.1 (by omega) (by omega) (by show fw_r σ 28 1 ≤ 300; omega) (by decide) (fun j j0 j1 => by
      have := g2 j j0 j1
      have hF := h.1.2.1.2.1.2.1
      show 0 ≤ fw_r σ 29 j ∧ fw_r σ 29 j ≤ 300
      omega)
    have e1 : fw_r σ 30 x + fw_r σ 46 x - fw_r σ 30 x = fw_r σ 46 x := by omega
    have e2 : fg_se (fw_r σ (28 + 1)) (fw_r σ 30 x) (fw_r σ 46 x).toNat (0, 0) = fg_se (fg_pt σ x) 0 (fw_r σ 46 x).toNat (0, 0) := by
      have s := fg_se_shift (fw_r σ (28 + 1)) (fw_r σ 30 x) (fw_r σ 46 x).toNat 0 (0, 0)
      rw [Int.zero_add] at s
      rw [← s]
      exact fg_se_ext _ _ _ (fun j _ _ => by unfold fg_pt; rw [Int.add_comm j]; rfl)
    rw [e1, e2] at r4
    generalize hv : 10000 * (fg_se (fg_pt σ x) 0 (fw_r σ 46 x).toNat (0, 0)).2 + (fg_se (fg_pt σ x) 0 (fw_r σ 46 x).toNat (0, 0)).1 = v at r4
    refine fg_OK_get (v := v) h ?_ ?_
    · have w2 : fw_w (fw_r σ 30 x + fw_r σ 46 x) = fw_r σ 30 x + fw_r σ 46 x := fw_w_id (by omega) (by omega)
      simp (disch := first | assumption | omega) only [fw_b_207_0, fw_b_207_12, fw_b_207_7, fw_b_207_9, fw_h207_3, fw_b_98_0, fw_b_98_5, fw_b_98_13, fw_c9_98, fw_b_23_0, fw_b_23_9, fw_b_23_14, fw_b_23_19, fw_b_23_23, r1, r2, r3, r4, w2, ↓if_pos, ↓if_neg, fw_bs, fw_cn_0, fw_cn_5, Nat.reduceAdd]
    · have hps : fw_ptr (fw_u (fw_u σ 54 0 v) 32 0 0) := by rw [fw_ptr_32_0, fw_ptr_54]; exact hp
      have hI : fg_IN (200 * t) σ (fw_u (fw_u σ 54 0 v) 32 0 0) := fg_IN_eq h.1 (fg_AC_refl σ) (fun a j u w z => by (try simp (disch := omega) only [fw_r_n, fw_r_s])) hp hps
      have s46 : fw_r (fw_u (fw_u σ 54 0 v) 32 0 0) 46 x = fw_r σ 46 x := by (try simp (disch := omega) only [fw_r_n, fw_r_s])
      have s25 : fw_r (fw_u (fw_u σ 54 0 v) 32 0 0) 32 25 = fw_r σ 32 25 := by (try simp (disch := omega) only [fw_r_n, fw_r_s])
      have s25b : fw_r (fw_u σ 54 0 v) 32 25 = fw_r σ 32 25 := by (try simp (disch := omega) only [fw_r_n, fw_r_s])
      have l := fs_sealTM_lp (u := x) hI c1.1 (by rw [s25]; exact c1.2) (fw_r σ 46 x).toNat 0 0 0 (by omega) (by rw [s46]; omega) (by omega) (by omega) (by omega) (by omega)
      rw [hv] at l
      have m1 := fs_isIn_t (m := fw_u σ 54 0 v) (v := x) (lo := 0) (hi := fw_r σ 32 25 - 1) (by omega)
      have m4 := fs_goesOn_0 (m := fw_u σ 54 0 v)
      simp (disch := first | assumption | omega) only [fw_b_176_0, fw_b_176_12, fw_b_176_15, fw_b_176_23, fw_b_176_28, s25b, w1, m1, m4, l, ↓if_pos, ↓if_neg, fw_bs, fw_cn_0, Nat.reduceAdd]
  · have r1 := fs_rTruck_f (r := x) hp (by omega) (by omega : ¬(0 ≤ x ∧ x < fw_r σ 27 2))
    refine fg_OK_err (k := 1) (b := 0) h (by decide) ?_ ?_
    · simp (disch := first | assumption | first | omega | assumption | (simp (disch := omega) only [fw_w_id, fw_wl_id, fw_r_k, fw_r_j, fw_r_s]; omega) | (simp only [fw_ptr_1_8, fw_ptr_2_5, fw_ptr_2_6, fw_ptr_2_7, fw_ptr_2_8, fw_ptr_2_9, fw_ptr_8_2, fw_ptr_8_3, fw_ptr_11_2, fw_ptr_11_3, fw_ptr_11_4, fw_ptr_11_5, fw_ptr_11_6, fw_ptr_17_8, fw_ptr_18_2, fw_ptr_18_3, fw_ptr_25_1, fw_ptr_27_2, fw_ptr_28_1, fw_ptr_32_0, fw_ptr_32_1, fw_ptr_32_3, fw_ptr_32_7, fw_ptr_32_8, fw_ptr_32_9, fw_ptr_32_10, fw_ptr_32_15, fw_ptr_32_16, fw_ptr_32_17, fw_ptr_32_18, fw_ptr_32_19, fw_ptr_32_25, fw_ptr_32_29, fw_ptr_3, fw_ptr_4, fw_ptr_5, fw_ptr_6, fw_ptr_7, fw_ptr_9, fw_ptr_10, fw_ptr_13, fw_ptr_15, fw_ptr_16, fw_ptr_19, fw_ptr_20, fw_ptr_21, fw_ptr_22, fw_ptr_23, fw_ptr_24, fw_ptr_26, fw_ptr_29, fw_ptr_30, fw_ptr_31, fw_ptr_33, fw_ptr_34, fw_ptr_35, fw_ptr_36, fw_ptr_37, fw_ptr_38, fw_ptr_39, fw_ptr_40, fw_ptr_41, fw_ptr_42, fw_ptr_43, fw_ptr_44, fw_ptr_45, fw_ptr_46, fw_ptr_47, fw_ptr_48, fw_ptr_49, fw_ptr_50, fw_ptr_51, fw_ptr_52, fw_ptr_53, fw_ptr_54, fw_ptr_55, fw_ptr_12, fw_ptr_x, fw_ptr_hi, fw_ptr_b3, fw_ptr_b1, fw_ptr_b2, fw_ptr_b2_]; assumption)) only [fw_b_207_0, fw_b_207_12, fw_b_207_7, fw_b_207_9, fw_h207_3, fw_b_98_0, fw_b_98_5, fw_b_98_13, fw_c9_98, r1, ↓if_pos, ↓if_neg, if_neg, if_pos, fw_bs, fw_cn_0, fw_cn_1, fw_cn_2, fw_cn_3, fw_cn_4, fw_cn_5, Nat.reduceAdd, fw_w_id, fw_wl_id, fw_r_k, fw_r_j, fw_r_s, fw_r_x, if_true, if_false]
    · have m1 := fs_isIn_f (m := fw_ex σ) (v := x) (lo := 0) (hi := fw_r σ 32 25 - 1) (by omega)
      have m4 := fs_goesOn_n (m := fw_ex σ) (v := 1) (by decide)
      have s25b : fw_r (fw_ex σ) 32 25 = fw_r σ 32 25 := fw_r_x _ _ _ (by decide)
      simp (disch := first | assumption | omega) only [fw_b_176_0, fw_b_176_12, fw_b_176_19, fw_b_176_23, fw_b_176_26, s25b, w1, m1, m4, ↓if_pos, ↓if_neg, fw_bs, fw_cn_0, Nat.reduceAdd]
theorem op_parcelIn {t x y : Int} {σ : fw_M} (h : fg_INV t σ) : fg_OK t (fun σ => fw_E 208 0 [(2, 1), (0, x), (0, y), (2, 54), (8, 0)] [] σ) (fun σ => fw_E 177 0 [(2, 32), (0, x), (0, y), (8, 0)] [] σ) σ := by
  obtain ⟨⟨hp, hk, hpk⟩, -⟩ := fg_facts h
  have hT := fg_T_bd h.1
  obtain ⟨g1, g2, g3, g4, g5⟩ := h.1.2.2.2.2.2.2.2.1
  have w1 : fw_w (fw_r σ 32 25 - 1) = fw_r σ 32 25 - 1 := fw_w_id (by omega) (by omega)
  have hpx : fw_ptr (fw_ex σ) := by rw [fw_ptr_x]; exact hp
  have x25 : fw_r (fw_ex σ) 32 25 = fw_r σ 32 25 := fw_r_x _ _ _ (by decide)
  by_cases c1 : 0 ≤ x ∧ x < fw_r σ 32 25
  · have g := g3 x c1.1 c1.2
    have r1 := fs_rTruck_t (r := x) hp (by omega) (by omega : 0 ≤ x ∧ x < fw_r σ 27 2)
    have r2 := fs_startOf_t hp c1.1 (by omega : x < fw_r σ 27 2) (by omega)
    have r3 := fs_sizeOf h.1 c1.1 c1.2
    have w46 : fw_w (fw_r σ 46 x - 1) = fw_r σ 46 x - 1 := fw_w_id (by omega) (by omega)
    have m1x := fs_isIn_t (m := fw_ex σ) (v := x) (lo := 0) (hi := fw_r σ 32 25 - 1) (by omega)
    have x46 : fw_r (fw_ex σ) 46 x = fw_r σ 46 x := fw_r_x _ _ _ (by decide)
    by_cases c2 : 0 ≤ y ∧ y < fw_r σ 46 x
    · have hr28 : fw_rw σ 28 := ⟨by decide, by decide, hp (28, 0, 29) (by decide)⟩
      have r4 := fs_at (r := 28) (i := fw_r σ 30 x + y) hr28 (by omega) (by omega) (by show fw_r σ 28 1 ≤ 300; omega)
      have r4' : fw_E 44 0 [(2, 28), (0, fw_r σ 30 x + y)] [] σ = some ((0, fg_pt σ x y), σ) := r4
      have z := fg_pt_in h.1 c1.1 c1.2 c2.1 c2.2
      generalize hv : fg_pt σ x y = v at *
      refine fg_OK_get (v := v) h ?_ ?_
      · have w2 : fw_w (fw_r σ 30 x + y) = fw_r σ 30 x + y := fw_w_id (by omega) (by omega)
        simp (disch := first | assumption | omega) only [fw_b_208_0, fw_b_208_17, fw_b_208_13, fw_b_208_8, fw_b_208_10, fw_h208_3, fw_h208_4, fw_b_99_0, fw_b_99_5, fw_b_99_9, fw_b_99_18, fw_b_99_21, fw_b_99_29, fw_b_99_38, fw_c9_99, fw_b_22_0, fw_b_22_9, fw_b_22_14, r1, r2, r3, r4', w2, ↓if_pos, ↓if_neg, fw_bs, fw_cn_0, fw_cn_5, Nat.reduceAdd]
      · have hp1 : fw_ptr (fw_u σ 54 0 v) := by rw [fw_ptr_54]; exact hp
        have hps : fw_ptr (fw_u (fw_u σ 54 0 v) 32 0 0) := by rw [fw_ptr_32_0]; exact hp1
        have hI : fg_IN (200 * t) σ (fw_u (fw_u σ 54 0 v) 32 0 0) := fg_IN_eq h.1 (fg_AC_refl σ) (fun a j u w z => by (try simp (disch := omega) only [fw_r_n, fw_r_s])) hp hps
        have s46 : fw_r (fw_u (fw_u σ 54 0 v) 32 0 0) 46 x = fw_r σ 46 x := by (try simp (disch := omega) only [fw_r_n, fw_r_s])
        have s46b : fw_r (fw_u σ 54 0 v) 46 x = fw_r σ 46 x := by (try simp (disch := omega) only [fw_r_n, fw_r_s])
        have s25 : fw_r (fw_u (fw_u σ 54 0 v) 32 0 0) 32 25 = fw_r σ 32 25 := by (try simp (disch := omega) only [fw_r_n, fw_r_s])
        have s25b : fw_r (fw_u σ 54 0 v) 32 25 = fw_r σ 32 25 := by (try simp (disch := omega) only [fw_r_n, fw_r_s])
        have l := fs_parcelAtM (u := x) (i := y) (a3 := (8, 0)) hI c1.1 (by rw [s25]; exact c1.2) c2.1 (by rw [s46]; exact c2.2)
        rw [hv] at l
        have m1 := fs_isIn_t (m := fw_u σ 54 0 v) (v := x) (lo := 0) (hi := fw_r σ 32 25 - 1) (by omega)
        have m2 := fs_isIn_t (m := fw_u σ 54 0 v) (v := y) (lo := 0) (hi := fw_r σ 46 x - 1) (by omega)
        have m4 := fs_goesOn_0 (m := fw_u σ 54 0 v)
        simp (disch := first | assumption | omega) only [fw_b_177_0, fw_b_177_11, fw_b_177_18, fw_b_177_24, fw_b_177_37, fw_b_177_44, fw_b_177_51, fw_b_177_54, fw_b_177_60, s25b, s46b, w1, w46, m1, m2, m4, l, ↓if_pos, ↓if_neg, fw_bs, fw_cn_0, Nat.reduceAdd]
    · refine fg_OK_err (k := 2) (b := 0) h (by decide) ?_ ?_
      · by_cases c3 : y < 0
        · simp (disch := first | assumption | first | omega | assumption | (simp (disch := omega) only [fw_w_id, fw_wl_id, fw_r_k, fw_r_j, fw_r_s]; omega) | (simp only [fw_ptr_1_8, fw_ptr_2_5, fw_ptr_2_6, fw_ptr_2_7, fw_ptr_2_8, fw_ptr_2_9, fw_ptr_8_2, fw_ptr_8_3, fw_ptr_11_2, fw_ptr_11_3, fw_ptr_11_4, fw_ptr_11_5, fw_ptr_11_6, fw_ptr_17_8, fw_ptr_18_2, fw_ptr_18_3, fw_ptr_25_1, fw_ptr_27_2, fw_ptr_28_1, fw_ptr_32_0, fw_ptr_32_1, fw_ptr_32_3, fw_ptr_32_7, fw_ptr_32_8, fw_ptr_32_9, fw_ptr_32_10, fw_ptr_32_15, fw_ptr_32_16, fw_ptr_32_17, fw_ptr_32_18, fw_ptr_32_19, fw_ptr_32_25, fw_ptr_32_29, fw_ptr_3, fw_ptr_4, fw_ptr_5, fw_ptr_6, fw_ptr_7, fw_ptr_9, fw_ptr_10, fw_ptr_13, fw_ptr_15, fw_ptr_16, fw_ptr_19, fw_ptr_20, fw_ptr_21, fw_ptr_22, fw_ptr_23, fw_ptr_24, fw_ptr_26, fw_ptr_29, fw_ptr_30, fw_ptr_31, fw_ptr_33, fw_ptr_34, fw_ptr_35, fw_ptr_36, fw_ptr_37, fw_ptr_38, fw_ptr_39, fw_ptr_40, fw_ptr_41, fw_ptr_42, fw_ptr_43, fw_ptr_44, fw_ptr_45, fw_ptr_46, fw_ptr_47, fw_ptr_48, fw_ptr_49, fw_ptr_50, fw_ptr_51, fw_ptr_52, fw_ptr_53, fw_ptr_54, fw_ptr_55, fw_ptr_12, fw_ptr_x, fw_ptr_hi, fw_ptr_b3, fw_ptr_b1, fw_ptr_b2, fw_ptr_b2_]; assumption)) only [fw_b_208_0, fw_b_208_17, fw_b_208_13, fw_b_208_8, fw_b_208_10, fw_h208_3, fw_h208_4, fw_b_99_0, fw_b_99_5, fw_b_99_9, fw_b_99_18, fw_b_99_21, fw_b_99_29, fw_b_99_38, fw_c9_99, r1, ↓if_pos, ↓if_neg, if_neg, if_pos, fw_bs, fw_cn_0, fw_cn_1, fw_cn_2, fw_cn_3, fw_cn_4, fw_cn_5, Nat.reduceAdd, fw_w_id, fw_wl_id, fw_r_k, fw_r_j, fw_r_s, fw_r_x, if_true, if_false]
        · simp (disch := first | assumption | first | omega | assumption | (simp (disch := omega) only [fw_w_id, fw_wl_id, fw_r_k, fw_r_j, fw_r_s]; omega) | (simp only [fw_ptr_1_8, fw_ptr_2_5, fw_ptr_2_6, fw_ptr_2_7, fw_ptr_2_8, fw_ptr_2_9, fw_ptr_8_2, fw_ptr_8_3, fw_ptr_11_2, fw_ptr_11_3, fw_ptr_11_4, fw_ptr_11_5, fw_ptr_11_6, fw_ptr_17_8, fw_ptr_18_2, fw_ptr_18_3, fw_ptr_25_1, fw_ptr_27_2, fw_ptr_28_1, fw_ptr_32_0, fw_ptr_32_1, fw_ptr_32_3, fw_ptr_32_7, fw_ptr_32_8, fw_ptr_32_9, fw_ptr_32_10, fw_ptr_32_15, fw_ptr_32_16, fw_ptr_32_17, fw_ptr_32_18, fw_ptr_32_19, fw_ptr_32_25, fw_ptr_32_29, fw_ptr_3, fw_ptr_4, fw_ptr_5, fw_ptr_6, fw_ptr_7, fw_ptr_9, fw_ptr_10, fw_ptr_13, fw_ptr_15, fw_ptr_16, fw_ptr_19, fw_ptr_20, fw_ptr_21, fw_ptr_22, fw_ptr_23, fw_ptr_24, fw_ptr_26, fw_ptr_29, fw_ptr_30, fw_ptr_31, fw_ptr_33, fw_ptr_34, fw_ptr_35, fw_ptr_36, fw_ptr_37, fw_ptr_38, fw_ptr_39, fw_ptr_40, fw_ptr_41, fw_ptr_42, fw_ptr_43, fw_ptr_44, fw_ptr_45, fw_ptr_46, fw_ptr_47, fw_ptr_48, fw_ptr_49, fw_ptr_50, fw_ptr_51, fw_ptr_52, fw_ptr_53, fw_ptr_54, fw_ptr_55, fw_ptr_12, fw_ptr_x, fw_ptr_hi, fw_ptr_b3, fw_ptr_b1, fw_ptr_b2, fw_ptr_b2_]; assumption)) only [fw_b_208_0, fw_b_208_17, fw_b_208_13, fw_b_208_8, fw_b_208_10, fw_h208_3, fw_h208_4, fw_b_99_0, fw_b_99_5, fw_b_99_9, fw_b_99_18, fw_b_99_21, fw_b_99_29, fw_b_99_38, fw_c9_99, r1, r3, ↓if_pos, ↓if_neg, if_neg, if_pos, fw_bs, fw_cn_0, fw_cn_1, fw_cn_2, fw_cn_3, fw_cn_4, fw_cn_5, Nat.reduceAdd, fw_w_id, fw_wl_id, fw_r_k, fw_r_j, fw_r_s, fw_r_x, if_true, if_false]
      · have m2 := fs_isIn_f (m := fw_ex σ) (v := y) (lo := 0) (hi := fw_r σ 46 x - 1) (by omega)
        have m4 := fs_goesOn_n (m := fw_ex σ) (v := 2) (by decide)
        simp (disch := first | assumption | omega) only [fw_b_177_0, fw_b_177_11, fw_b_177_18, fw_b_177_24, fw_b_177_37, fw_b_177_40, fw_b_177_51, fw_b_177_63, x25, x46, w1, w46, m1x, m2, m4, ↓if_pos, ↓if_neg, fw_bs, fw_cn_0, Nat.reduceAdd]
  · have r1 := fs_rTruck_f (r := x) hp (by omega) (by omega : ¬(0 ≤ x ∧ x < fw_r σ 27 2))
    refine fg_OK_err (k := 1) (b := 0) h (by decide) ?_ ?_
    · simp (disch := first | assumption | first | omega | assumption | (simp (disch := omega) only [fw_w_id, fw_wl_id, fw_r_k, fw_r_j, fw_r_s]; omega) | (simp only [fw_ptr_1_8, fw_ptr_2_5, fw_ptr_2_6, fw_ptr_2_7, fw_ptr_2_8, fw_ptr_2_9, fw_ptr_8_2, fw_ptr_8_3, fw_ptr_11_2, fw_ptr_11_3, fw_ptr_11_4, fw_ptr_11_5, fw_ptr_11_6, fw_ptr_17_8, fw_ptr_18_2, fw_ptr_18_3, fw_ptr_25_1, fw_ptr_27_2, fw_ptr_28_1, fw_ptr_32_0, fw_ptr_32_1, fw_ptr_32_3, fw_ptr_32_7, fw_ptr_32_8, fw_ptr_32_9, fw_ptr_32_10, fw_ptr_32_15, fw_ptr_32_16, fw_ptr_32_17, fw_ptr_32_18, fw_ptr_32_19, fw_ptr_32_25, fw_ptr_32_29, fw_ptr_3, fw_ptr_4, fw_ptr_5, fw_ptr_6, fw_ptr_7, fw_ptr_9, fw_ptr_10, fw_ptr_13, fw_ptr_15, fw_ptr_16, fw_ptr_19, fw_ptr_20, fw_ptr_21, fw_ptr_22, fw_ptr_23, fw_ptr_24, fw_ptr_26, fw_ptr_29, fw_ptr_30, fw_ptr_31, fw_ptr_33, fw_ptr_34, fw_ptr_35, fw_ptr_36, fw_ptr_37, fw_ptr_38, fw_ptr_39, fw_ptr_40, fw_ptr_41, fw_ptr_42, fw_ptr_43, fw_ptr_44, fw_ptr_45, fw_ptr_46, fw_ptr_47, fw_ptr_48, fw_ptr_49, fw_ptr_50, fw_ptr_51, fw_ptr_52, fw_ptr_53, fw_ptr_54, fw_ptr_55, fw_ptr_12, fw_ptr_x, fw_ptr_hi, fw_ptr_b3, fw_ptr_b1, fw_ptr_b2, fw_ptr_b2_]; assumption)) only [fw_b_208_0, fw_b_208_17, fw_b_208_13, fw_b_208_8, fw_b_208_10, fw_h208_3, fw_h208_4, fw_b_99_0, fw_b_99_5, fw_b_99_9, fw_b_99_18, fw_b_99_21, fw_b_99_29, fw_b_99_38, fw_c9_99, r1, ↓if_pos, ↓if_neg, if_neg, if_pos, fw_bs, fw_cn_0, fw_cn_1, fw_cn_2, fw_cn_3, fw_cn_4, fw_cn_5, Nat.reduceAdd, fw_w_id, fw_wl_id, fw_r_k, fw_r_j, fw_r_s, fw_r_x, if_true, if_false]
    · have m1 := fs_isIn_f (m := fw_ex σ) (v := x) (lo := 0) (hi := fw_r σ 32 25 - 1) (by omega)
      have m4 := fs_goesOn_n (m := fw_ex σ) (v := 1) (by decide)
      simp (disch := first | assumption | omega) only [fw_b_177_0, fw_b_177_11, fw_b_177_14, fw_b_177_44, fw_b_177_51, fw_b_177_63, x25, w1, m1, m4, ↓if_pos, ↓if_neg, fw_bs, fw_cn_0, Nat.reduceAdd]
theorem op_truckOf {t p : Int} {σ : fw_M} (h : fg_INV t σ) : fg_OK t (fun σ => fw_E 209 0 [(2, 1), (0, p), (2, 54), (8, 0)] [] σ) (fun σ => fw_E 178 0 [(2, 32), (0, p)] [] σ) σ := by
  obtain ⟨⟨hp, hk, hpk⟩, -, hN, h82, h113, h25, hP⟩ := fg_facts h
  have hpx : fw_ptr (fw_ex σ) := by rw [fw_ptr_x]; exact hp
  by_cases c1 : 0 ≤ p ∧ p < fw_r σ 32 10
  · have g := h.1.2.2.1.2.2.2.1 p c1.1 c1.2
    have r1 := fs_rParcel_t (r := p) hp hpk (by omega)
    have hcode : 0 ≤ fg_code (fw_r σ 39 p) ∧ fg_code (fw_r σ 39 p) < 65536 := by unfold fg_code; repeat' split; all_goals omega
    have r2 := fs_stateAt hp hpk c1.1 (by omega : p < fw_r σ 2 5) (by rw [g.2.2.1]; exact hcode)
    rw [g.2.2.1] at r2
    by_cases c2 : fw_r σ 39 p = 3
    · have e116 : fg_code (fw_r σ 39 p) = 116 := by rw [c2]; rfl
      rw [e116] at r2
      have r3 := fs_truckAt hp hpk c1.1 (by omega : p < fw_r σ 2 5)
      rw [g.2.2.2.2.2.1 c2] at r3
      refine fg_OK_get (v := fw_r σ 47 p) h ?_ ?_
      · simp (disch := first | assumption | omega) only [fw_b_209_0, fw_b_209_15, fw_b_209_12, fw_b_209_7, fw_b_209_9, fw_h209_4, fw_h209_1, fw_b_100_0, fw_b_100_5, fw_b_100_13, fw_b_100_18, fw_b_100_26, fw_b_100_34, fw_c9_100, r1, r2, r3, ↓if_pos, ↓if_neg, fw_bs, fw_cn_0, fw_cn_5, Nat.reduceAdd]
      · have hp1 : fw_ptr (fw_u σ 54 0 (fw_r σ 47 p)) := by rw [fw_ptr_54]; exact hp
        have hp2 : fw_ptr (fw_u (fw_u σ 54 0 (fw_r σ 47 p)) 32 0 0) := by rw [fw_ptr_32_0]; exact hp1
        have m1 := fs_isParcel_t (m := fw_u σ 54 0 (fw_r σ 47 p)) (i := p) (by (try simp (disch := omega) only [fw_r_n, fw_r_s]); exact hP) (by (try simp (disch := omega) only [fw_r_n, fw_r_s]); exact c1)
        have m4 := fs_goesOn_0 (m := fw_u σ 54 0 (fw_r σ 47 p))
        simp (disch := first | assumption | first | omega | assumption | (simp (disch := omega) only [fw_w_id, fw_wl_id, fw_r_k, fw_r_j, fw_r_s]; omega) | (simp only [fw_ptr_1_8, fw_ptr_2_5, fw_ptr_2_6, fw_ptr_2_7, fw_ptr_2_8, fw_ptr_2_9, fw_ptr_8_2, fw_ptr_8_3, fw_ptr_11_2, fw_ptr_11_3, fw_ptr_11_4, fw_ptr_11_5, fw_ptr_11_6, fw_ptr_17_8, fw_ptr_18_2, fw_ptr_18_3, fw_ptr_25_1, fw_ptr_27_2, fw_ptr_28_1, fw_ptr_32_0, fw_ptr_32_1, fw_ptr_32_3, fw_ptr_32_7, fw_ptr_32_8, fw_ptr_32_9, fw_ptr_32_10, fw_ptr_32_15, fw_ptr_32_16, fw_ptr_32_17, fw_ptr_32_18, fw_ptr_32_19, fw_ptr_32_25, fw_ptr_32_29, fw_ptr_3, fw_ptr_4, fw_ptr_5, fw_ptr_6, fw_ptr_7, fw_ptr_9, fw_ptr_10, fw_ptr_13, fw_ptr_15, fw_ptr_16, fw_ptr_19, fw_ptr_20, fw_ptr_21, fw_ptr_22, fw_ptr_23, fw_ptr_24, fw_ptr_26, fw_ptr_29, fw_ptr_30, fw_ptr_31, fw_ptr_33, fw_ptr_34, fw_ptr_35, fw_ptr_36, fw_ptr_37, fw_ptr_38, fw_ptr_39, fw_ptr_40, fw_ptr_41, fw_ptr_42, fw_ptr_43, fw_ptr_44, fw_ptr_45, fw_ptr_46, fw_ptr_47, fw_ptr_48, fw_ptr_49, fw_ptr_50, fw_ptr_51, fw_ptr_52, fw_ptr_53, fw_ptr_54, fw_ptr_55, fw_ptr_12, fw_ptr_x, fw_ptr_hi, fw_ptr_b3, fw_ptr_b1, fw_ptr_b2, fw_ptr_b2_]; assumption)) only [fw_b_178_0, fw_b_178_6, fw_b_178_13, fw_b_178_23, fw_b_178_31, fw_b_178_34, fw_b_178_43, fw_b_178_27, fw_b_178_9, m1, m4, c2, ↓if_pos, ↓if_neg, if_neg, if_pos, fw_bs, fw_cn_0, fw_cn_1, fw_cn_2, fw_cn_3, fw_cn_4, fw_cn_5, Nat.reduceAdd, fw_w_id, fw_wl_id, fw_r_k, fw_r_j, fw_r_s, fw_r_x, if_true, if_false]
    · have e116 : fg_code (fw_r σ 39 p) ≠ 116 := by
        unfold fg_code
        have := g.2.1
        by_cases d0 : fw_r σ 39 p = 0
        · rw [if_pos d0]; decide
        · rw [if_neg d0]
          by_cases d1 : fw_r σ 39 p = 1
          · rw [if_pos d1]; decide
          · rw [if_neg d1]
            by_cases d2 : fw_r σ 39 p = 2
            · rw [if_pos d2]; decide
            · rw [if_neg d2, if_neg c2]; decide
      generalize fg_code (fw_r σ 39 p) = w at *
      refine fg_OK_err (k := 2) (b := 0) h (by decide) ?_ ?_
      · simp (disch := first | assumption | first | omega | assumption | (simp (disch := omega) only [fw_w_id, fw_wl_id, fw_r_k, fw_r_j, fw_r_s]; omega) | (simp only [fw_ptr_1_8, fw_ptr_2_5, fw_ptr_2_6, fw_ptr_2_7, fw_ptr_2_8, fw_ptr_2_9, fw_ptr_8_2, fw_ptr_8_3, fw_ptr_11_2, fw_ptr_11_3, fw_ptr_11_4, fw_ptr_11_5, fw_ptr_11_6, fw_ptr_17_8, fw_ptr_18_2, fw_ptr_18_3, fw_ptr_25_1, fw_ptr_27_2, fw_ptr_28_1, fw_ptr_32_0, fw_ptr_32_1, fw_ptr_32_3, fw_ptr_32_7, fw_ptr_32_8, fw_ptr_32_9, fw_ptr_32_10, fw_ptr_32_15, fw_ptr_32_16, fw_ptr_32_17, fw_ptr_32_18, fw_ptr_32_19, fw_ptr_32_25, fw_ptr_32_29, fw_ptr_3, fw_ptr_4, fw_ptr_5, fw_ptr_6, fw_ptr_7, fw_ptr_9, fw_ptr_10, fw_ptr_13, fw_ptr_15, fw_ptr_16, fw_ptr_19, fw_ptr_20, fw_ptr_21, fw_ptr_22, fw_ptr_23, fw_ptr_24, fw_ptr_26, fw_ptr_29, fw_ptr_30, fw_ptr_31, fw_ptr_33, fw_ptr_34, fw_ptr_35, fw_ptr_36, fw_ptr_37, fw_ptr_38, fw_ptr_39, fw_ptr_40, fw_ptr_41, fw_ptr_42, fw_ptr_43, fw_ptr_44, fw_ptr_45, fw_ptr_46, fw_ptr_47, fw_ptr_48, fw_ptr_49, fw_ptr_50, fw_ptr_51, fw_ptr_52, fw_ptr_53, fw_ptr_54, fw_ptr_55, fw_ptr_12, fw_ptr_x, fw_ptr_hi, fw_ptr_b3, fw_ptr_b1, fw_ptr_b2, fw_ptr_b2_]; assumption)) only [fw_b_209_0, fw_b_209_15, fw_b_209_12, fw_b_209_7, fw_b_209_9, fw_h209_4, fw_h209_1, fw_b_100_0, fw_b_100_5, fw_b_100_13, fw_b_100_18, fw_b_100_26, fw_b_100_34, fw_c9_100, r1, r2, ↓if_pos, ↓if_neg, if_neg, if_pos, fw_bs, fw_cn_0, fw_cn_1, fw_cn_2, fw_cn_3, fw_cn_4, fw_cn_5, Nat.reduceAdd, fw_w_id, fw_wl_id, fw_r_k, fw_r_j, fw_r_s, fw_r_x, if_true, if_false]
      · have m1 := fs_isParcel_t (m := fw_ex σ) (i := p) (by rw [fw_r_x _ _ _ (by decide)]; exact hP) (by rw [fw_r_x _ _ _ (by decide)]; exact c1)
        have m4 := fs_goesOn_n (m := fw_ex σ) (v := 2) (by decide)
        simp (disch := first | assumption | first | omega | assumption | (simp (disch := omega) only [fw_w_id, fw_wl_id, fw_r_k, fw_r_j, fw_r_s]; omega) | (simp only [fw_ptr_1_8, fw_ptr_2_5, fw_ptr_2_6, fw_ptr_2_7, fw_ptr_2_8, fw_ptr_2_9, fw_ptr_8_2, fw_ptr_8_3, fw_ptr_11_2, fw_ptr_11_3, fw_ptr_11_4, fw_ptr_11_5, fw_ptr_11_6, fw_ptr_17_8, fw_ptr_18_2, fw_ptr_18_3, fw_ptr_25_1, fw_ptr_27_2, fw_ptr_28_1, fw_ptr_32_0, fw_ptr_32_1, fw_ptr_32_3, fw_ptr_32_7, fw_ptr_32_8, fw_ptr_32_9, fw_ptr_32_10, fw_ptr_32_15, fw_ptr_32_16, fw_ptr_32_17, fw_ptr_32_18, fw_ptr_32_19, fw_ptr_32_25, fw_ptr_32_29, fw_ptr_3, fw_ptr_4, fw_ptr_5, fw_ptr_6, fw_ptr_7, fw_ptr_9, fw_ptr_10, fw_ptr_13, fw_ptr_15, fw_ptr_16, fw_ptr_19, fw_ptr_20, fw_ptr_21, fw_ptr_22, fw_ptr_23, fw_ptr_24, fw_ptr_26, fw_ptr_29, fw_ptr_30, fw_ptr_31, fw_ptr_33, fw_ptr_34, fw_ptr_35, fw_ptr_36, fw_ptr_37, fw_ptr_38, fw_ptr_39, fw_ptr_40, fw_ptr_41, fw_ptr_42, fw_ptr_43, fw_ptr_44, fw_ptr_45, fw_ptr_46, fw_ptr_47, fw_ptr_48, fw_ptr_49, fw_ptr_50, fw_ptr_51, fw_ptr_52, fw_ptr_53, fw_ptr_54, fw_ptr_55, fw_ptr_12, fw_ptr_x, fw_ptr_hi, fw_ptr_b3, fw_ptr_b1, fw_ptr_b2, fw_ptr_b2_]; assumption)) only [fw_b_178_0, fw_b_178_6, fw_b_178_13, fw_b_178_23, fw_b_178_31, fw_b_178_34, fw_b_178_43, fw_b_178_27, fw_b_178_9, m1, m4, ↓if_pos, ↓if_neg, if_neg, if_pos, fw_bs, fw_cn_0, fw_cn_1, fw_cn_2, fw_cn_3, fw_cn_4, fw_cn_5, Nat.reduceAdd, fw_w_id, fw_wl_id, fw_r_k, fw_r_j, fw_r_s, fw_r_x, if_true, if_false]
  · refine fg_OK_err (k := 1) (b := 0) h (by decide) ?_ ?_
    · have r1 := fs_rParcel_f (r := p) hp (by omega)
      simp (disch := first | assumption | first | omega | assumption | (simp (disch := omega) only [fw_w_id, fw_wl_id, fw_r_k, fw_r_j, fw_r_s]; omega) | (simp only [fw_ptr_1_8, fw_ptr_2_5, fw_ptr_2_6, fw_ptr_2_7, fw_ptr_2_8, fw_ptr_2_9, fw_ptr_8_2, fw_ptr_8_3, fw_ptr_11_2, fw_ptr_11_3, fw_ptr_11_4, fw_ptr_11_5, fw_ptr_11_6, fw_ptr_17_8, fw_ptr_18_2, fw_ptr_18_3, fw_ptr_25_1, fw_ptr_27_2, fw_ptr_28_1, fw_ptr_32_0, fw_ptr_32_1, fw_ptr_32_3, fw_ptr_32_7, fw_ptr_32_8, fw_ptr_32_9, fw_ptr_32_10, fw_ptr_32_15, fw_ptr_32_16, fw_ptr_32_17, fw_ptr_32_18, fw_ptr_32_19, fw_ptr_32_25, fw_ptr_32_29, fw_ptr_3, fw_ptr_4, fw_ptr_5, fw_ptr_6, fw_ptr_7, fw_ptr_9, fw_ptr_10, fw_ptr_13, fw_ptr_15, fw_ptr_16, fw_ptr_19, fw_ptr_20, fw_ptr_21, fw_ptr_22, fw_ptr_23, fw_ptr_24, fw_ptr_26, fw_ptr_29, fw_ptr_30, fw_ptr_31, fw_ptr_33, fw_ptr_34, fw_ptr_35, fw_ptr_36, fw_ptr_37, fw_ptr_38, fw_ptr_39, fw_ptr_40, fw_ptr_41, fw_ptr_42, fw_ptr_43, fw_ptr_44, fw_ptr_45, fw_ptr_46, fw_ptr_47, fw_ptr_48, fw_ptr_49, fw_ptr_50, fw_ptr_51, fw_ptr_52, fw_ptr_53, fw_ptr_54, fw_ptr_55, fw_ptr_12, fw_ptr_x, fw_ptr_hi, fw_ptr_b3, fw_ptr_b1, fw_ptr_b2, fw_ptr_b2_]; assumption)) only [fw_b_209_0, fw_b_209_15, fw_b_209_12, fw_b_209_7, fw_b_209_9, fw_h209_4, fw_h209_1, fw_b_100_0, fw_b_100_5, fw_b_100_13, fw_b_100_18, fw_b_100_26, fw_b_100_34, fw_c9_100, r1, ↓if_pos, ↓if_neg, if_neg, if_pos, fw_bs, fw_cn_0, fw_cn_1, fw_cn_2, fw_cn_3, fw_cn_4, fw_cn_5, Nat.reduceAdd, fw_w_id, fw_wl_id, fw_r_k, fw_r_j, fw_r_s, fw_r_x, if_true, if_false]
    · have m1 := fs_isParcel_f (m := fw_ex σ) (i := p) (by rw [fw_r_x _ _ _ (by decide)]; exact hP) (by rw [fw_r_x _ _ _ (by decide)]; exact c1)
      have m4 := fs_goesOn_n (m := fw_ex σ) (v := 1) (by decide)
      simp (disch := first | assumption | first | omega | assumption | (simp (disch := omega) only [fw_w_id, fw_wl_id, fw_r_k, fw_r_j, fw_r_s]; omega) | (simp only [fw_ptr_1_8, fw_ptr_2_5, fw_ptr_2_6, fw_ptr_2_7, fw_ptr_2_8, fw_ptr_2_9, fw_ptr_8_2, fw_ptr_8_3, fw_ptr_11_2, fw_ptr_11_3, fw_ptr_11_4, fw_ptr_11_5, fw_ptr_11_6, fw_ptr_17_8, fw_ptr_18_2, fw_ptr_18_3, fw_ptr_25_1, fw_ptr_27_2, fw_ptr_28_1, fw_ptr_32_0, fw_ptr_32_1, fw_ptr_32_3, fw_ptr_32_7, fw_ptr_32_8, fw_ptr_32_9, fw_ptr_32_10, fw_ptr_32_15, fw_ptr_32_16, fw_ptr_32_17, fw_ptr_32_18, fw_ptr_32_19, fw_ptr_32_25, fw_ptr_32_29, fw_ptr_3, fw_ptr_4, fw_ptr_5, fw_ptr_6, fw_ptr_7, fw_ptr_9, fw_ptr_10, fw_ptr_13, fw_ptr_15, fw_ptr_16, fw_ptr_19, fw_ptr_20, fw_ptr_21, fw_ptr_22, fw_ptr_23, fw_ptr_24, fw_ptr_26, fw_ptr_29, fw_ptr_30, fw_ptr_31, fw_ptr_33, fw_ptr_34, fw_ptr_35, fw_ptr_36, fw_ptr_37, fw_ptr_38, fw_ptr_39, fw_ptr_40, fw_ptr_41, fw_ptr_42, fw_ptr_43, fw_ptr_44, fw_ptr_45, fw_ptr_46, fw_ptr_47, fw_ptr_48, fw_ptr_49, fw_ptr_50, fw_ptr_51, fw_ptr_52, fw_ptr_53, fw_ptr_54, fw_ptr_55, fw_ptr_12, fw_ptr_x, fw_ptr_hi, fw_ptr_b3, fw_ptr_b1, fw_ptr_b2, fw_ptr_b2_]; assumption)) only [fw_b_178_0, fw_b_178_6, fw_b_178_13, fw_b_178_23, fw_b_178_31, fw_b_178_34, fw_b_178_43, fw_b_178_27, fw_b_178_9, m1, m4, ↓if_pos, ↓if_neg, if_neg, if_pos, fw_bs, fw_cn_0, fw_cn_1, fw_cn_2, fw_cn_3, fw_cn_4, fw_cn_5, Nat.reduceAdd, fw_w_id, fw_wl_id, fw_r_k, fw_r_j, fw_r_s, fw_r_x, if_true, if_false]
